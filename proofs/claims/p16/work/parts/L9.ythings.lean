def HeQ (S : Nat → Nat) (x : Int32) (n r : Nat) (z z1 : Int64) : Prop := (r = 1 ∧ z1 = z ∧ ∃ i : Nat, x = nI i ∧ i + 2 < n) ∨ (r = 0 ∧ z1 = rfV 4)
theorem PrY.elem {y : TY} {K : PK} {B : Nat → Nat → Int32} {dr nd nm cs rg : Nat} {it : Nat → Nat} {S nn : Nat → Nat} {sp : Nat → Int64} {hp p e d c : Nat} {v : Int64} (h : PrY y K B dr nd nm it cs rg) (hht : HT (yfi y) (yfd y) (yft y) S nn sp hp) (hx : ExS y S) (hd : yfi y d c) (hc : 64 ≤ c) (hv : VT (yfi y) S (c - 64) v) (e1 : v = rfV p) (hp9 : p < 3008) (e2 : S p = e + 1) (hft : fitK (btK K dr) nd e (d - 64)) : VT (yfi y) S (d - 64) v := by
  refine h.2.2.2.2.2.2.2.2.2 S d c v hd hc hv (fun q e9 g1 g2 => ?_)
  have hq : q < 3008 := by
    by_cases z : q < 8
    · omega
    · obtain ⟨b1, b2, _⟩ := hht.2.2.2 q e9 g2 (by omega)
      have := hht.1
      omega
  have z := rfV_inj hp9 hq (e1.symm.trans g1)
  subst z
  have z2 : e9 = e := by omega
  subst z2
  have hd2 : DyT nd e9 := by
    by_cases w : e9 < 60
    · exact Or.inl (h.1.2.2.1 _ (hx.2 _ _ e2 w))
    · refine Or.inr ?_
      by_cases w8 : p < 8
      · have := hht.2.2.1 p e9 e2 w8
        omega
      · obtain ⟨b1, b2, b3, b4, b5⟩ := hht.2.2.2 p e9 e2 (by omega)
        rcases b4 with ⟨w1, _⟩ | ⟨w1, w2, _⟩
        · omega
        · exact ⟨w1, w2⟩
  rw [h.1.2.1]
  exact ⟨hd2, hft⟩
theorem PrY.elemN {y : TY} {K : PK} {B : Nat → Nat → Int32} {dr nd nm cs rg : Nat} {it : Nat → Nat} {S : Nat → Nat} {d c : Nat} {v : Int64} {x : Int32} (h : PrY y K B dr nd nm it cs rg) (hd : yfi y d c) (hc : 64 ≤ c) (hv : VT (yfi y) S (c - 64) v) (e1 : v = nmV x) : VT (yfi y) S (d - 64) v :=
  h.2.2.2.2.2.2.2.2.2 S d c v hd hc hv (fun q e9 g1 _ => absurd (g1.symm.trans e1) rfV_ne)
set_option maxHeartbeats 20000000 in
set_option maxRecDepth 100000 in
theorem Y_check14 (l : Launch) (G : pT) (h0 : Nat) (a : Nat → Nat) (F : Nat → Int32) (R : Nat → Value) (Z : Int64) (B : Nat → Nat → Int32) (J : Nat → Nat → Int64) (K : PK) (w : va_W) (y : TY) (Sh : Nat → Nat) (nn : Nat → Nat) (on : Nat) (j9 : Nat) (ba : Nat) (pc : Nat) (tp : Nat) (sp : Nat) (op : Nat) (ht : Nat) (fl : Nat) (pq : Nat) (dr : Nat) (ml : Nat) (nd : Nat) (nm : Nat) (cp : Nat) (it : Nat → Nat) (s9 : Nat) (g : Nat → Nat → Nat) (rk : Nat → Nat) (cs : Nat) (rg : Nat) (hsp : (sp = 34 ∧ op = 35) ∨ (sp = 35 ∧ op = 34)) (hmi : MIy y (B 19) Sh nn (J sp) ht (B 30) (J 29) on j9 ba pc tp) (hmo : MOy y (B 16) (B 17) (B 18) (B 19) j9) (hZ : Z = 0) (hfl : B 33 5 = nI fl) (hflb : fl ≤ 20000) (hop : B 16 pc = nI 14) (hru : IRy y (B 16) (B 17) (B 18) pc j9 14) (hwp : WPr G K g) (hps : PgT G K g (a 1) pq dr ml nd nm cp it s9) (hrk : RkO K rk) (hpy : PrY y K B dr nd nm it cs rg) (hle : LoE J sp op) (hO : OKP G h0 a (upd (upd (upd (upd (upd (upd F 18 (nI ba)) 19 (nI tp)) 20 (nI pc)) 21 (nI (pc + 1))) 23 5) 26 (nI ht)) (updR (updR (updR R 5 (.ref pq)) 7 (.ref (a sp))) 8 (.ref (a op))) Z B J K w) : PM l G pX0 yX5_check cX5_check 6 none ({ frames := 5, cells := 0, slots := 0, locals := 128 }) [.ref (a 5), .int 0, .int (B 17 pc)] w (fun (v : Option Value) (u : va_W × (Nat × Int32 × Int32 × Int64 × (Nat → Nat → Int64) × (Nat → Int32) × (Nat → Int32) × Nat)) => v = none ∧ (StQ y (B 19) Sh nn (u.2.2.2.2.2.1 sp) ht (B 30) (B 16) on j9 ba pc fl u.2.1 u.2.2.1 u.2.2.2.1 u.2.2.2.2.1 (u.2.2.2.2.2.1 29) u.2.2.2.2.2.2.2.2) ∧ (LoE u.2.2.2.2.2.1 sp op) ∧ (u.2.2.2.2.2.2.1 5 = nI u.2.2.2.2.2.2.2.2) ∧ (u.2.2.2.2.2.2.2.2 ≤ fl ∧ u.2.1 ≤ 32000) ∧ (OKP G h0 a (upd (upd (upd (upd (upd (upd F 18 (nI ba)) 19 (nI u.2.1)) 20 (nI pc)) 21 u.2.2.2.1) 23 u.2.2.1) 26 (nI ht)) (updR (updR (updR R 5 (.ref pq)) 7 (.ref (a sp))) 8 (.ref (a op))) u.2.2.2.2.1 (updA (updA B 32 u.2.2.2.2.2.2.2.1) 33 u.2.2.2.2.2.2.1) u.2.2.2.2.2.1 K u.1)) (fun u => u.1) := by
  intro sz
  refine Met.ofW (cc := cX5_check) (maxL := 6) (ret := none) (by decide) rfl ?_
  intro p e s m args below meth c s₁ B9 hml hv
  obtain ⟨rfl, hsz, hP, hD0, hE, hX⟩ := hv
  have hx := B9.exec
  have hb := B9.bytes
  have hr := B9.returns
  have hts := atoms_spec (ws := Cond.code yX5_check cX5_check 6 none :: pw) B9.pre
  have hq : ∀ w ∈ pw, w.before _ s = true := fun w h => hts w (List.mem_cons_of_mem _ h)
  have hown : s.vm.findClass RX5 = some m.cls := findClass_of_methodNamed B9.named
  have hlocks := B9.notSynchronized
  subst hsz
  have hD := hD0.self (sz := s.heap.size)
  have hA : ∀ q : Nat, s.heap.size ≤ q → va_A w s.heap.size q := fun q h => Or.inr h
  generalize va_A w s.heap.size = A at hD hE hA ⊢
  have hS : va_S A s.heap s.heap [] := va_S.rf
  have hl := lv_entry ([.ref (a 5), .int 0, .int (B 17 pc)]) (n := 6) (Nat.le_of_ble_eq_true rfl)
  rw [lg_entry_eq]
  generalize (lg_sl ([.ref (a 5), .int 0, .int (B 17 pc)]) ++ List.replicate (6 - (lg_sl ([.ref (a 5), .int 0, .int (B 17 pc)])).length) Slot.unset).toArray = ls at hl ⊢
  have hl : lv_has ls 6 [(0, .ref (a 5)), (1, .int 0), (2, .int (B 17 pc))] := hl
  obtain ⟨hn1, hn2, hn3, hn4, hn5, hn6, hn7, hn8, hn9, hn10, hn11, hn12⟩ := MIy.nums hmi hmo
  have hlo := FFy.lo hmi.ff
  have hpg := hps.1
  have hp1 := hpg.1
  have hp2 := hpg.2.1
  have hp3 := hpg.2.2.1
  have hp4 := hpg.2.2.2.1
  have hp5 := hpg.2.2.2.2.1
  have hp6 := hpg.2.2.2.2.2.1
  have hp8 := hpg.2.2.2.2.2.2.2.1
  have hp9 := hpg.2.2.2.2.2.2.2.2
  have h29 : ¬ sp = 29 ∧ ¬ op = 29 := by omega
  have hht := hmi.1.2.2.2
  obtain ⟨t9, u9, os, r1, r2, r3, r4, r5⟩ := hru
  obtain ⟨hv1, hv2, hv3, hv4⟩ := FFy.pop hmi.ff r3
  have hu1 := r2
  rw [r1] at hl
  refine lv_aload_n hx hb dX5_check_0 rfl (lv_at hl 0 rfl) ?_
  have hO : OKW G h0 a (upd (upd (upd (upd (upd (upd (upd F 18 (nI ba)) 19 (nI tp)) 20 (nI pc)) 21 (nI (pc + 1))) 23 5) 26 (nI ht)) 19 (nI tp)) (updR (updR (updR R 5 (.ref pq)) 7 (.ref (a sp))) 8 (.ref (a op))) Z B J K.1 (fun q99 x99 => x99 = rep G a K q99) w := hO.to rfl
  obtain ⟨_, qr4, hqr5⟩ := hO.2.1 28 _ (sg_28 G h0 a _ _ _ _ _)
  refine pc_V0 (G := G) (As := []) (rest := []) hx hb hml hown hq hE hX pX0_al hP hD hS hA hl.1 (Y_pop l G h0 a (upd (upd (upd (upd (upd (upd F 18 (nI ba)) 19 (nI tp)) 20 (nI pc)) 21 (nI (pc + 1))) 23 5) 26 (nI ht)) (updR (updR (updR R 5 (.ref pq)) 7 (.ref (a sp))) 8 (.ref (a op))) Z B J K.1 (fun q99 x99 => x99 = rep G a K q99) w tp (by omega) hO) (gV pw_598 pw_599 pw_600 pw_539 pw_595) hV_X5_pop qr4 4 hqr5 rfl rfl rfl (Nat.le_of_ble_eq_true rfl) dX5_check_1 ⟨Nat.le_of_ble_eq_true rfl, Nat.le_of_ble_eq_true rfl⟩ ⟨Nat.le_of_ble_eq_true rfl, Nat.le_of_ble_eq_true rfl⟩ (fun v3 u1 H locs hw2 hP hD hS => ?_)
  obtain ⟨w, _⟩ := u1
  obtain ⟨hw2, hO⟩ := hw2
  obtain rfl : v3 = some (.long ((J 29) (tp - 1))) := hw2
  have hO : OKP G h0 a (upd (upd (upd (upd (upd (upd F 18 (nI ba)) 19 (nI (tp - 1))) 20 (nI pc)) 21 (nI (pc + 1))) 23 5) 26 (nI ht)) (updR (updR (updR R 5 (.ref pq)) 7 (.ref (a sp))) 8 (.ref (a op))) Z B J K w := hO.to rfl
  refine W.widen (k := 0) (n := 0) (Nat.le_of_ble_eq_true rfl) (Nat.le_of_ble_eq_true rfl) ?_
  refine W.eq (g2 := F0 m 4 ls [.long ((J 29) (tp - 1))]) rfl ?_
  rcases VT.rf hv3 r4 with hq9 | ⟨p9, d9, hp9, hq9, hS9, hf9⟩
  · skip
    rw [show ((J 29) (tp - 1)) = 0 from hq9]
    refine lv_lstore_n (lv' := [(3, .long 0), (0, .ref (a 5)), (1, .int 0), (2, .int (nI u9))]) hx hb dX5_check_4 rfl hl (by decide) rfl (fun ls hl => ?_)
    refine lv_lload_n hx hb dX5_check_5 rfl (lv_at hl 0 rfl) ?_
    refine lv_lconst (v := 0) hx hb dX5_check_6 (by decide) ?_
    refine W.lcmp hx hb dX5_check_7 ?_
    refine lv_topi (fun x6 e7 => ?_)
    obtain rfl : x6 = 0 := e7.trans (by decide)
    refine lv_if_eq (tgt := 34) hx hb dX5_check_8 (by decide) (fun c8 => ?_) (fun c8 => absurd c8 (by decide))
    refine lv_iconst (v := 0) hx hb dX5_check_34 (by decide) ?_
    refine lv_istore (lv' := [(5, .int 0), (3, .long 0), (0, .ref (a 5)), (1, .int 0), (2, .int (nI u9))]) hx hb dX5_check_35 hl (by decide) rfl (fun ls hl => ?_)
    refine lv_iload_n hx hb dX5_check_37 rfl (lv_at hl 3 rfl) ?_
    refine lv_if_ne (tgt := 50) hx hb dX5_check_38 (by decide) (fun c9 => absurd c9 (by decide)) (fun c9 => ?_)
    refine lv_aload_n hx hb dX5_check_41 rfl (lv_at hl 2 rfl) ?_
    refine lv_iload hx hb dX5_check_42 (lv_at hl 0 rfl) ?_
    have hO : OKW G h0 a (upd (upd (upd (upd (upd (upd (upd F 18 (nI ba)) 19 (nI (tp - 1))) 20 (nI pc)) 21 (nI (pc + 1))) 23 5) 26 (nI ht)) 19 (nI (tp - 1))) (updR (updR (updR R 5 (.ref pq)) 7 (.ref (a sp))) 8 (.ref (a op))) Z B J K.1 (fun q99 x99 => x99 = rep G a K q99) w := hO.to rfl
    obtain ⟨_, qr13, hqr14⟩ := hO.2.1 28 _ (sg_28 G h0 a _ _ _ _ _)
    refine pc_V0 (G := G) (As := [.int (nI 0)]) (rest := []) hx hb hml hown hq hE hX pX0_al hP hD hS hA hl.1 (Y_pushTruth l G h0 a (upd (upd (upd (upd (upd (upd F 18 (nI ba)) 19 (nI (tp - 1))) 20 (nI pc)) 21 (nI (pc + 1))) 23 5) 26 (nI ht)) (updR (updR (updR R 5 (.ref pq)) 7 (.ref (a sp))) 8 (.ref (a op))) Z B J K.1 (fun q99 x99 => x99 = rep G a K q99) w 0 (tp - 1) (by omega) (by omega) hO) (gV pw_609 pw_610 pw_611 pw_539 pw_601) hV_X5_pushTruth qr13 4 hqr14 rfl rfl rfl (Nat.le_of_ble_eq_true rfl) dX5_check_44 ⟨Nat.le_of_ble_eq_true rfl, Nat.le_of_ble_eq_true rfl⟩ ⟨Nat.le_of_ble_eq_true rfl, Nat.le_of_ble_eq_true rfl⟩ (fun v12 u10 H locs hw11 hP hD hS => ?_)
    obtain ⟨w, r15⟩ := u10
    obtain ⟨hw11, h16, hO⟩ := hw11
    have h16 : r15 = if 0 = 0 then 0 else 1 := h16
    obtain rfl : v12 = none := hw11
    have hO : OKP G h0 a (upd (upd (upd (upd (upd (upd F 18 (nI ba)) 19 (nI ((tp - 1) + 1))) 20 (nI pc)) 21 (nI (pc + 1))) 23 5) 26 (nI ht)) (updR (updR (updR R 5 (.ref pq)) 7 (.ref (a sp))) 8 (.ref (a op))) Z B (updJ J 29 (vp_updL ((J 29)) (tp - 1) r15)) K w := hO.to rfl
    refine W.widen (k := 0) (n := 0) (Nat.le_of_ble_eq_true rfl) (Nat.le_of_ble_eq_true rfl) ?_
    refine W.eq (g2 := F0 m 47 ls []) rfl ?_
    refine lv_goto (tgt := 74) hx hb dX5_check_47 (by decide) ?_
    have hou := OuQ.num (z := Z) hv4 (VT.tr (by omega) h16) rfl
    have hz17 : StQ y (B 19) Sh nn ((updJ J 29 (vp_updL ((J 29)) (tp - 1) r15)) sp) ht (B 30) (B 16) on j9 ba pc fl ((tp - 1) + 1) (5 : Int32) (nI (pc + 1)) Z ((updJ J 29 (vp_updL ((J 29)) (tp - 1) r15)) 29) fl := (StQ.spq (updJ_ne h29.1) (StQ.ou hmi hmo (by rw [hop]; decide) hou r5 (Nat.le_refl _) hZ))
    have hz18 : LoE (updJ J 29 (vp_updL ((J 29)) (tp - 1) r15)) sp op := (LoE.up hle h29.1 h29.2)
    have hz19 : (B 33) 5 = nI fl := hfl
    have hz20 : fl ≤ fl ∧ ((tp - 1) + 1) ≤ 32000 := (by omega)
    have hO : OKP G h0 a (upd (upd (upd (upd (upd (upd F 18 (nI ba)) 19 (nI ((tp - 1) + 1))) 20 (nI pc)) 21 (nI (pc + 1))) 23 (5 : Int32)) 26 (nI ht)) (updR (updR (updR R 5 (.ref pq)) 7 (.ref (a sp))) 8 (.ref (a op))) Z (updA (updA B 32 (B 32)) 33 (B 33)) (updJ J 29 (vp_updL ((J 29)) (tp - 1) r15)) K w := hO.to rfl
    exact W.vret hx hb hr (fun t99 ht99 hW99 => ⟨⟨_, (w, (((tp - 1) + 1), (5 : Int32), (nI (pc + 1)), Z, (updJ J 29 (vp_updL ((J 29)) (tp - 1) r15)), (B 33), (B 32), fl)), rfl, ⟨rfl, hz17, hz18, hz19, hz20, hO⟩, by rw [ht99]; exact hP, hD⟩, hS.F ht99⟩) hS.2.2 dX5_check_74
  · skip
    rw [show ((J 29) (tp - 1)) = rfV p9 from hq9]
    obtain ⟨n9, hh19, hh29, hh39, hh49, hh59, hh69, hh79⟩ := HT.hd hht hS9
    refine lv_lstore_n (lv' := [(3, .long (rfV p9)), (0, .ref (a 5)), (1, .int 0), (2, .int (nI u9))]) hx hb dX5_check_4 rfl hl (by decide) rfl (fun ls hl => ?_)
    refine lv_lload_n hx hb dX5_check_5 rfl (lv_at hl 0 rfl) ?_
    refine lv_lconst (v := 0) hx hb dX5_check_6 (by decide) ?_
    refine W.lcmp hx hb dX5_check_7 ?_
    refine lv_topi (fun x21 e22 => ?_)
    refine lv_if_eq (tgt := 34) hx hb dX5_check_8 (by decide) (fun c23 => (rfV_n0 (p := p9) ((lg_cmp_eq _ _).mp (e22.symm.trans c23))).elim) (fun c23 => ?_)
    refine lv_aload_n hx hb dX5_check_11 rfl (lv_at hl 1 rfl) ?_
    refine c_get (v := .ref pq) (C := RX5) (Tc := TX5) (N := 19) (ci := 4) hx hb hq pin_wsX50 hown hE hP hO 28 (sg_28 G h0 a _ _ _ _ _) rfl 8 (by decide) (hq _ pw_486) (fun _ h9 => h9) rfl dX5_check_12 ?_
    refine lv_aload_n hx hb dX5_check_15 rfl (lv_at hl 1 rfl) ?_
    refine c_get (v := .ref (a 28)) (C := RX5) (Tc := TX5) (N := 19) (ci := 4) hx hb hq pin_wsX50 hown hE hP hO 28 (sg_28 G h0 a _ _ _ _ _) rfl 1 (by decide) (hq _ pw_473) (fun _ h9 => h9) rfl dX5_check_16 ?_
    refine lv_lload_n hx hb dX5_check_19 rfl (lv_at hl 0 rfl) ?_
    have hO : OKW G h0 a (upd (upd (upd (upd (upd (upd (upd F 18 (nI ba)) 19 (nI (tp - 1))) 20 (nI pc)) 21 (nI (pc + 1))) 23 5) 26 (nI ht)) 26 (nI ht)) (updR (updR (updR (updR (updR R 5 (.ref pq)) 7 (.ref (a sp))) 8 (.ref (a op))) 7 (.ref (a sp))) 8 (.ref (a op))) Z B J K.1 (fun q99 x99 => x99 = rep G a K q99) w := hO.to rfl
    obtain ⟨_, qr27, hqr28⟩ := hO.2.1 29 _ (sg_29 G h0 a _ _ _ _ _)
    refine pc_V0 (G := G) (As := [.long (rfV p9)]) (rest := [.ref pq]) hx hb hml hown hq hE hX pX0_al hP hD hS hA hl.1 (Y_typeOf l G h0 a (upd (upd (upd (upd (upd (upd F 18 (nI ba)) 19 (nI (tp - 1))) 20 (nI pc)) 21 (nI (pc + 1))) 23 5) 26 (nI ht)) (updR (updR (updR R 5 (.ref pq)) 7 (.ref (a sp))) 8 (.ref (a op))) Z B J K.1 (fun q99 x99 => x99 = rep G a K q99) w p9 n9 d9 sp op ht hsp (by omega) (by omega) hh59 hO) (gV pw_489 pw_490 pw_491 pw_440 pw_441) hV_X3_typeOf qr27 3 hqr28 rfl rfl rfl (Nat.le_of_ble_eq_true rfl) dX5_check_20 ⟨Nat.le_of_ble_eq_true rfl, Nat.le_of_ble_eq_true rfl⟩ ⟨Nat.le_of_ble_eq_true rfl, Nat.le_of_ble_eq_true rfl⟩ (fun v26 u24 H locs hw25 hP hD hS => ?_)
    obtain ⟨w, _⟩ := u24
    obtain ⟨hw25, hO⟩ := hw25
    obtain rfl : v26 = some (.int (nI d9)) := hw25
    have hO : OKP G h0 a (upd (upd (upd (upd (upd (upd F 18 (nI ba)) 19 (nI (tp - 1))) 20 (nI pc)) 21 (nI (pc + 1))) 23 5) 26 (nI ht)) (updR (updR (updR R 5 (.ref pq)) 7 (.ref (a sp))) 8 (.ref (a op))) Z B J K w := hO.to rfl
    refine W.widen (k := 0) (n := 0) (Nat.le_of_ble_eq_true rfl) (Nat.le_of_ble_eq_true rfl) ?_
    refine W.eq (g2 := F0 m 23 ls [.int (nI d9), .ref pq]) rfl ?_
    refine lv_iload_n hx hb dX5_check_23 rfl (lv_at hl 3 rfl) ?_
    have hO : OKP G h0 a (upd (upd (upd (upd (upd (upd F 18 (nI ba)) 19 (nI (tp - 1))) 20 (nI pc)) 21 (nI (pc + 1))) 23 5) 26 (nI ht)) (updR (updR (updR R 5 (.ref pq)) 7 (.ref (a sp))) 8 (.ref (a op))) Z B J K w := hO.to rfl
    obtain ⟨qr32, hqr33⟩ := p_recv hO (by rw [hp1]; decide) (rep_7 hp1)
    refine pc_V0 (G := G) (As := [.int (nI d9), .int (nI u9)]) (rest := []) hx hb hml hown hq hE hX pX0_al hP hD hS hA hl.1 (Y_fits l G h0 a (upd (upd (upd (upd (upd (upd F 18 (nI ba)) 19 (nI (tp - 1))) 20 (nI pc)) 21 (nI (pc + 1))) 23 5) 26 (nI ht)) (updR (updR (updR R 5 (.ref pq)) 7 (.ref (a sp))) 8 (.ref (a op))) Z B J K w pq dr ml nd d9 u9 g hps.1 hps.2.1 (by omega) hO) (gV pw_644 pw_112 pw_113 pw_106 pw_103) hV_X9_fits qr32 6 hqr33 rfl rfl rfl (Nat.le_of_ble_eq_true rfl) dX5_check_24 ⟨Nat.le_of_ble_eq_true rfl, Nat.le_of_ble_eq_true rfl⟩ ⟨Nat.le_of_ble_eq_true rfl, Nat.le_of_ble_eq_true rfl⟩ (fun v31 u29 H locs hw30 hP hD hS => ?_)
    obtain ⟨w, r34⟩ := u29
    obtain ⟨hw30, h35, h36, hO⟩ := hw30
    have h35 : r34 ≤ 1 := h35
    have h36 : r34 = 1 ↔ fitK (btK K dr) nd d9 u9 := h36
    obtain rfl : v31 = some (.int (nI r34)) := hw30
    have hO : OKP G h0 a (upd (upd (upd (upd (upd (upd F 18 (nI ba)) 19 (nI (tp - 1))) 20 (nI pc)) 21 (nI (pc + 1))) 23 5) 26 (nI ht)) (updR (updR (updR R 5 (.ref pq)) 7 (.ref (a sp))) 8 (.ref (a op))) Z B J K w := hO.to rfl
    refine W.widen (k := 0) (n := 0) (Nat.le_of_ble_eq_true rfl) (Nat.le_of_ble_eq_true rfl) ?_
    refine W.eq (g2 := F0 m 27 ls [.int (nI r34)]) rfl ?_
    refine lv_if_eq (tgt := 34) hx hb dX5_check_27 (by decide) (fun c37 => ?_) (fun c37 => ?_)
    · have n38 : r34 = 0 := (nI_eq (a := r34) (b := 0) (by omega) (by omega)).mp c37
      refine lv_iconst (v := 0) hx hb dX5_check_34 (by decide) ?_
      refine lv_istore (lv' := [(5, .int 0), (3, .long (rfV p9)), (0, .ref (a 5)), (1, .int 0), (2, .int (nI u9))]) hx hb dX5_check_35 hl (by decide) rfl (fun ls hl => ?_)
      refine lv_iload_n hx hb dX5_check_37 rfl (lv_at hl 3 rfl) ?_
      refine lv_if_ne (tgt := 50) hx hb dX5_check_38 (by decide) (fun c39 => absurd c39 (by decide)) (fun c39 => ?_)
      refine lv_aload_n hx hb dX5_check_41 rfl (lv_at hl 2 rfl) ?_
      refine lv_iload hx hb dX5_check_42 (lv_at hl 0 rfl) ?_
      have hO : OKW G h0 a (upd (upd (upd (upd (upd (upd (upd F 18 (nI ba)) 19 (nI (tp - 1))) 20 (nI pc)) 21 (nI (pc + 1))) 23 5) 26 (nI ht)) 19 (nI (tp - 1))) (updR (updR (updR R 5 (.ref pq)) 7 (.ref (a sp))) 8 (.ref (a op))) Z B J K.1 (fun q99 x99 => x99 = rep G a K q99) w := hO.to rfl
      obtain ⟨_, qr43, hqr44⟩ := hO.2.1 28 _ (sg_28 G h0 a _ _ _ _ _)
      refine pc_V0 (G := G) (As := [.int (nI 0)]) (rest := []) hx hb hml hown hq hE hX pX0_al hP hD hS hA hl.1 (Y_pushTruth l G h0 a (upd (upd (upd (upd (upd (upd F 18 (nI ba)) 19 (nI (tp - 1))) 20 (nI pc)) 21 (nI (pc + 1))) 23 5) 26 (nI ht)) (updR (updR (updR R 5 (.ref pq)) 7 (.ref (a sp))) 8 (.ref (a op))) Z B J K.1 (fun q99 x99 => x99 = rep G a K q99) w 0 (tp - 1) (by omega) (by omega) hO) (gV pw_609 pw_610 pw_611 pw_539 pw_601) hV_X5_pushTruth qr43 4 hqr44 rfl rfl rfl (Nat.le_of_ble_eq_true rfl) dX5_check_44 ⟨Nat.le_of_ble_eq_true rfl, Nat.le_of_ble_eq_true rfl⟩ ⟨Nat.le_of_ble_eq_true rfl, Nat.le_of_ble_eq_true rfl⟩ (fun v42 u40 H locs hw41 hP hD hS => ?_)
      obtain ⟨w, r45⟩ := u40
      obtain ⟨hw41, h46, hO⟩ := hw41
      have h46 : r45 = if 0 = 0 then 0 else 1 := h46
      obtain rfl : v42 = none := hw41
      have hO : OKP G h0 a (upd (upd (upd (upd (upd (upd F 18 (nI ba)) 19 (nI ((tp - 1) + 1))) 20 (nI pc)) 21 (nI (pc + 1))) 23 5) 26 (nI ht)) (updR (updR (updR R 5 (.ref pq)) 7 (.ref (a sp))) 8 (.ref (a op))) Z B (updJ J 29 (vp_updL ((J 29)) (tp - 1) r45)) K w := hO.to rfl
      refine W.widen (k := 0) (n := 0) (Nat.le_of_ble_eq_true rfl) (Nat.le_of_ble_eq_true rfl) ?_
      refine W.eq (g2 := F0 m 47 ls []) rfl ?_
      refine lv_goto (tgt := 74) hx hb dX5_check_47 (by decide) ?_
      have hou := OuQ.num (z := Z) hv4 (VT.tr (by omega) h46) rfl
      have hz47 : StQ y (B 19) Sh nn ((updJ J 29 (vp_updL ((J 29)) (tp - 1) r45)) sp) ht (B 30) (B 16) on j9 ba pc fl ((tp - 1) + 1) (5 : Int32) (nI (pc + 1)) Z ((updJ J 29 (vp_updL ((J 29)) (tp - 1) r45)) 29) fl := (StQ.spq (updJ_ne h29.1) (StQ.ou hmi hmo (by rw [hop]; decide) hou r5 (Nat.le_refl _) hZ))
      have hz48 : LoE (updJ J 29 (vp_updL ((J 29)) (tp - 1) r45)) sp op := (LoE.up hle h29.1 h29.2)
      have hz49 : (B 33) 5 = nI fl := hfl
      have hz50 : fl ≤ fl ∧ ((tp - 1) + 1) ≤ 32000 := (by omega)
      have hO : OKP G h0 a (upd (upd (upd (upd (upd (upd F 18 (nI ba)) 19 (nI ((tp - 1) + 1))) 20 (nI pc)) 21 (nI (pc + 1))) 23 (5 : Int32)) 26 (nI ht)) (updR (updR (updR R 5 (.ref pq)) 7 (.ref (a sp))) 8 (.ref (a op))) Z (updA (updA B 32 (B 32)) 33 (B 33)) (updJ J 29 (vp_updL ((J 29)) (tp - 1) r45)) K w := hO.to rfl
      exact W.vret hx hb hr (fun t99 ht99 hW99 => ⟨⟨_, (w, (((tp - 1) + 1), (5 : Int32), (nI (pc + 1)), Z, (updJ J 29 (vp_updL ((J 29)) (tp - 1) r45)), (B 33), (B 32), fl)), rfl, ⟨rfl, hz47, hz48, hz49, hz50, hO⟩, by rw [ht99]; exact hP, hD⟩, hS.F ht99⟩) hS.2.2 dX5_check_74
    · have n51 : ¬ (r34 = 0) := fun h9 => c37 ((nI_eq (a := r34) (b := 0) (by omega) (by omega)).mpr h9)
      have hfu : yfi y d9 u9 := PrY.fit hpy hf9 (h36.mp (by omega))
      refine lv_iconst (v := 1) hx hb dX5_check_30 (by decide) ?_
      refine lv_goto (tgt := 35) hx hb dX5_check_31 (by decide) ?_
      refine lv_istore (lv' := [(5, .int 1), (3, .long (rfV p9)), (0, .ref (a 5)), (1, .int 0), (2, .int (nI u9))]) hx hb dX5_check_35 hl (by decide) rfl (fun ls hl => ?_)
      refine lv_iload_n hx hb dX5_check_37 rfl (lv_at hl 3 rfl) ?_
      refine lv_if_ne (tgt := 50) hx hb dX5_check_38 (by decide) (fun c52 => absurd c52 (by decide)) (fun c52 => ?_)
      refine lv_aload_n hx hb dX5_check_41 rfl (lv_at hl 2 rfl) ?_
      refine lv_iload hx hb dX5_check_42 (lv_at hl 0 rfl) ?_
      have hO : OKW G h0 a (upd (upd (upd (upd (upd (upd (upd F 18 (nI ba)) 19 (nI (tp - 1))) 20 (nI pc)) 21 (nI (pc + 1))) 23 5) 26 (nI ht)) 19 (nI (tp - 1))) (updR (updR (updR R 5 (.ref pq)) 7 (.ref (a sp))) 8 (.ref (a op))) Z B J K.1 (fun q99 x99 => x99 = rep G a K q99) w := hO.to rfl
      obtain ⟨_, qr56, hqr57⟩ := hO.2.1 28 _ (sg_28 G h0 a _ _ _ _ _)
      refine pc_V0 (G := G) (As := [.int (nI 1)]) (rest := []) hx hb hml hown hq hE hX pX0_al hP hD hS hA hl.1 (Y_pushTruth l G h0 a (upd (upd (upd (upd (upd (upd F 18 (nI ba)) 19 (nI (tp - 1))) 20 (nI pc)) 21 (nI (pc + 1))) 23 5) 26 (nI ht)) (updR (updR (updR R 5 (.ref pq)) 7 (.ref (a sp))) 8 (.ref (a op))) Z B J K.1 (fun q99 x99 => x99 = rep G a K q99) w 1 (tp - 1) (by omega) (by omega) hO) (gV pw_609 pw_610 pw_611 pw_539 pw_601) hV_X5_pushTruth qr56 4 hqr57 rfl rfl rfl (Nat.le_of_ble_eq_true rfl) dX5_check_44 ⟨Nat.le_of_ble_eq_true rfl, Nat.le_of_ble_eq_true rfl⟩ ⟨Nat.le_of_ble_eq_true rfl, Nat.le_of_ble_eq_true rfl⟩ (fun v55 u53 H locs hw54 hP hD hS => ?_)
      obtain ⟨w, r58⟩ := u53
      obtain ⟨hw54, h59, hO⟩ := hw54
      have h59 : r58 = if 1 = 0 then 0 else 1 := h59
      obtain rfl : v55 = none := hw54
      have hO : OKP G h0 a (upd (upd (upd (upd (upd (upd F 18 (nI ba)) 19 (nI ((tp - 1) + 1))) 20 (nI pc)) 21 (nI (pc + 1))) 23 5) 26 (nI ht)) (updR (updR (updR R 5 (.ref pq)) 7 (.ref (a sp))) 8 (.ref (a op))) Z B (updJ J 29 (vp_updL ((J 29)) (tp - 1) r58)) K w := hO.to rfl
      refine W.widen (k := 0) (n := 0) (Nat.le_of_ble_eq_true rfl) (Nat.le_of_ble_eq_true rfl) ?_
      refine W.eq (g2 := F0 m 47 ls []) rfl ?_
      refine lv_goto (tgt := 74) hx hb dX5_check_47 (by decide) ?_
      have hou := OuQ.num (z := Z) hv4 (VT.tr (by omega) h59) rfl
      have hz60 : StQ y (B 19) Sh nn ((updJ J 29 (vp_updL ((J 29)) (tp - 1) r58)) sp) ht (B 30) (B 16) on j9 ba pc fl ((tp - 1) + 1) (5 : Int32) (nI (pc + 1)) Z ((updJ J 29 (vp_updL ((J 29)) (tp - 1) r58)) 29) fl := (StQ.spq (updJ_ne h29.1) (StQ.ou hmi hmo (by rw [hop]; decide) hou r5 (Nat.le_refl _) hZ))
      have hz61 : LoE (updJ J 29 (vp_updL ((J 29)) (tp - 1) r58)) sp op := (LoE.up hle h29.1 h29.2)
      have hz62 : (B 33) 5 = nI fl := hfl
      have hz63 : fl ≤ fl ∧ ((tp - 1) + 1) ≤ 32000 := (by omega)
      have hO : OKP G h0 a (upd (upd (upd (upd (upd (upd F 18 (nI ba)) 19 (nI ((tp - 1) + 1))) 20 (nI pc)) 21 (nI (pc + 1))) 23 (5 : Int32)) 26 (nI ht)) (updR (updR (updR R 5 (.ref pq)) 7 (.ref (a sp))) 8 (.ref (a op))) Z (updA (updA B 32 (B 32)) 33 (B 33)) (updJ J 29 (vp_updL ((J 29)) (tp - 1) r58)) K w := hO.to rfl
      exact W.vret hx hb hr (fun t99 ht99 hW99 => ⟨⟨_, (w, (((tp - 1) + 1), (5 : Int32), (nI (pc + 1)), Z, (updJ J 29 (vp_updL ((J 29)) (tp - 1) r58)), (B 33), (B 32), fl)), rfl, ⟨rfl, hz60, hz61, hz62, hz63, hO⟩, by rw [ht99]; exact hP, hD⟩, hS.F ht99⟩) hS.2.2 dX5_check_74
set_option maxHeartbeats 20000000 in
set_option maxRecDepth 100000 in
theorem Y_check15 (l : Launch) (G : pT) (h0 : Nat) (a : Nat → Nat) (F : Nat → Int32) (R : Nat → Value) (Z : Int64) (B : Nat → Nat → Int32) (J : Nat → Nat → Int64) (K : PK) (w : va_W) (y : TY) (Sh : Nat → Nat) (nn : Nat → Nat) (on : Nat) (j9 : Nat) (ba : Nat) (pc : Nat) (tp : Nat) (sp : Nat) (op : Nat) (ht : Nat) (fl : Nat) (pq : Nat) (dr : Nat) (ml : Nat) (nd : Nat) (nm : Nat) (cp : Nat) (it : Nat → Nat) (s9 : Nat) (g : Nat → Nat → Nat) (rk : Nat → Nat) (cs : Nat) (rg : Nat) (hsp : (sp = 34 ∧ op = 35) ∨ (sp = 35 ∧ op = 34)) (hmi : MIy y (B 19) Sh nn (J sp) ht (B 30) (J 29) on j9 ba pc tp) (hmo : MOy y (B 16) (B 17) (B 18) (B 19) j9) (hZ : Z = 0) (hfl : B 33 5 = nI fl) (hflb : fl ≤ 20000) (hop : B 16 pc = nI 15) (hru : IRy y (B 16) (B 17) (B 18) pc j9 15) (hwp : WPr G K g) (hps : PgT G K g (a 1) pq dr ml nd nm cp it s9) (hrk : RkO K rk) (hpy : PrY y K B dr nd nm it cs rg) (hle : LoE J sp op) (hO : OKP G h0 a (upd (upd (upd (upd (upd (upd F 18 (nI ba)) 19 (nI tp)) 20 (nI pc)) 21 (nI (pc + 1))) 23 5) 26 (nI ht)) (updR (updR (updR R 5 (.ref pq)) 7 (.ref (a sp))) 8 (.ref (a op))) Z B J K w) : PM l G pX0 yX5_check cX5_check 6 none ({ frames := 5, cells := 0, slots := 0, locals := 128 }) [.ref (a 5), .int 1, .int (B 17 pc)] w (fun (v : Option Value) (u : va_W × (Nat × Int32 × Int32 × Int64 × (Nat → Nat → Int64) × (Nat → Int32) × (Nat → Int32) × Nat)) => v = none ∧ (StQ y (B 19) Sh nn (u.2.2.2.2.2.1 sp) ht (B 30) (B 16) on j9 ba pc fl u.2.1 u.2.2.1 u.2.2.2.1 u.2.2.2.2.1 (u.2.2.2.2.2.1 29) u.2.2.2.2.2.2.2.2) ∧ (LoE u.2.2.2.2.2.1 sp op) ∧ (u.2.2.2.2.2.2.1 5 = nI u.2.2.2.2.2.2.2.2) ∧ (u.2.2.2.2.2.2.2.2 ≤ fl ∧ u.2.1 ≤ 32000) ∧ (OKP G h0 a (upd (upd (upd (upd (upd (upd F 18 (nI ba)) 19 (nI u.2.1)) 20 (nI pc)) 21 u.2.2.2.1) 23 u.2.2.1) 26 (nI ht)) (updR (updR (updR R 5 (.ref pq)) 7 (.ref (a sp))) 8 (.ref (a op))) u.2.2.2.2.1 (updA (updA B 32 u.2.2.2.2.2.2.2.1) 33 u.2.2.2.2.2.2.1) u.2.2.2.2.2.1 K u.1)) (fun u => u.1) := by
  intro sz
  refine Met.ofW (cc := cX5_check) (maxL := 6) (ret := none) (by decide) rfl ?_
  intro p e s m args below meth c s₁ B9 hml hv
  obtain ⟨rfl, hsz, hP, hD0, hE, hX⟩ := hv
  have hx := B9.exec
  have hb := B9.bytes
  have hr := B9.returns
  have hts := atoms_spec (ws := Cond.code yX5_check cX5_check 6 none :: pw) B9.pre
  have hq : ∀ w ∈ pw, w.before _ s = true := fun w h => hts w (List.mem_cons_of_mem _ h)
  have hown : s.vm.findClass RX5 = some m.cls := findClass_of_methodNamed B9.named
  have hlocks := B9.notSynchronized
  subst hsz
  have hD := hD0.self (sz := s.heap.size)
  have hA : ∀ q : Nat, s.heap.size ≤ q → va_A w s.heap.size q := fun q h => Or.inr h
  generalize va_A w s.heap.size = A at hD hE hA ⊢
  have hS : va_S A s.heap s.heap [] := va_S.rf
  have hl := lv_entry ([.ref (a 5), .int 1, .int (B 17 pc)]) (n := 6) (Nat.le_of_ble_eq_true rfl)
  rw [lg_entry_eq]
  generalize (lg_sl ([.ref (a 5), .int 1, .int (B 17 pc)]) ++ List.replicate (6 - (lg_sl ([.ref (a 5), .int 1, .int (B 17 pc)])).length) Slot.unset).toArray = ls at hl ⊢
  have hl : lv_has ls 6 [(0, .ref (a 5)), (1, .int 1), (2, .int (B 17 pc))] := hl
  obtain ⟨hn1, hn2, hn3, hn4, hn5, hn6, hn7, hn8, hn9, hn10, hn11, hn12⟩ := MIy.nums hmi hmo
  have hlo := FFy.lo hmi.ff
  have hpg := hps.1
  have hp1 := hpg.1
  have hp2 := hpg.2.1
  have hp3 := hpg.2.2.1
  have hp4 := hpg.2.2.2.1
  have hp5 := hpg.2.2.2.2.1
  have hp6 := hpg.2.2.2.2.2.1
  have hp8 := hpg.2.2.2.2.2.2.2.1
  have hp9 := hpg.2.2.2.2.2.2.2.2
  have h29 : ¬ sp = 29 ∧ ¬ op = 29 := by omega
  have hht := hmi.1.2.2.2
  obtain ⟨t9, u9, os, r1, r2, r3, r4, r5⟩ := hru
  obtain ⟨hv1, hv2, hv3, hv4⟩ := FFy.pop hmi.ff r3
  have hu1 : u9 < 128 := by unfold RfT at r2; omega
  rw [r1] at hl
  refine lv_aload_n hx hb dX5_check_0 rfl (lv_at hl 0 rfl) ?_
  have hO : OKW G h0 a (upd (upd (upd (upd (upd (upd (upd F 18 (nI ba)) 19 (nI tp)) 20 (nI pc)) 21 (nI (pc + 1))) 23 5) 26 (nI ht)) 19 (nI tp)) (updR (updR (updR R 5 (.ref pq)) 7 (.ref (a sp))) 8 (.ref (a op))) Z B J K.1 (fun q99 x99 => x99 = rep G a K q99) w := hO.to rfl
  obtain ⟨_, qr4, hqr5⟩ := hO.2.1 28 _ (sg_28 G h0 a _ _ _ _ _)
  refine pc_V0 (G := G) (As := []) (rest := []) hx hb hml hown hq hE hX pX0_al hP hD hS hA hl.1 (Y_pop l G h0 a (upd (upd (upd (upd (upd (upd F 18 (nI ba)) 19 (nI tp)) 20 (nI pc)) 21 (nI (pc + 1))) 23 5) 26 (nI ht)) (updR (updR (updR R 5 (.ref pq)) 7 (.ref (a sp))) 8 (.ref (a op))) Z B J K.1 (fun q99 x99 => x99 = rep G a K q99) w tp (by omega) hO) (gV pw_598 pw_599 pw_600 pw_539 pw_595) hV_X5_pop qr4 4 hqr5 rfl rfl rfl (Nat.le_of_ble_eq_true rfl) dX5_check_1 ⟨Nat.le_of_ble_eq_true rfl, Nat.le_of_ble_eq_true rfl⟩ ⟨Nat.le_of_ble_eq_true rfl, Nat.le_of_ble_eq_true rfl⟩ (fun v3 u1 H locs hw2 hP hD hS => ?_)
  obtain ⟨w, _⟩ := u1
  obtain ⟨hw2, hO⟩ := hw2
  obtain rfl : v3 = some (.long ((J 29) (tp - 1))) := hw2
  have hO : OKP G h0 a (upd (upd (upd (upd (upd (upd F 18 (nI ba)) 19 (nI (tp - 1))) 20 (nI pc)) 21 (nI (pc + 1))) 23 5) 26 (nI ht)) (updR (updR (updR R 5 (.ref pq)) 7 (.ref (a sp))) 8 (.ref (a op))) Z B J K w := hO.to rfl
  refine W.widen (k := 0) (n := 0) (Nat.le_of_ble_eq_true rfl) (Nat.le_of_ble_eq_true rfl) ?_
  refine W.eq (g2 := F0 m 4 ls [.long ((J 29) (tp - 1))]) rfl ?_
  rcases VT.rf hv3 r4 with hq9 | ⟨p9, d9, hp9, hq9, hS9, hf9⟩
  · skip
    rw [show ((J 29) (tp - 1)) = 0 from hq9]
    refine lv_lstore_n (lv' := [(3, .long 0), (0, .ref (a 5)), (1, .int 1), (2, .int (nI u9))]) hx hb dX5_check_4 rfl hl (by decide) rfl (fun ls hl => ?_)
    refine lv_lload_n hx hb dX5_check_5 rfl (lv_at hl 0 rfl) ?_
    refine lv_lconst (v := 0) hx hb dX5_check_6 (by decide) ?_
    refine W.lcmp hx hb dX5_check_7 ?_
    refine lv_topi (fun x6 e7 => ?_)
    obtain rfl : x6 = 0 := e7.trans (by decide)
    refine lv_if_eq (tgt := 34) hx hb dX5_check_8 (by decide) (fun c8 => ?_) (fun c8 => absurd c8 (by decide))
    refine lv_iconst (v := 0) hx hb dX5_check_34 (by decide) ?_
    refine lv_istore (lv' := [(5, .int 0), (3, .long 0), (0, .ref (a 5)), (1, .int 1), (2, .int (nI u9))]) hx hb dX5_check_35 hl (by decide) rfl (fun ls hl => ?_)
    refine lv_iload_n hx hb dX5_check_37 rfl (lv_at hl 3 rfl) ?_
    refine lv_if_ne (tgt := 50) hx hb dX5_check_38 (by decide) (fun c9 => ?_) (fun c9 => absurd c9 (by decide))
    refine lv_iload hx hb dX5_check_50 (lv_at hl 0 rfl) ?_
    refine lv_if_ne (tgt := 61) hx hb dX5_check_52 (by decide) (fun c10 => absurd c10 (by decide)) (fun c10 => ?_)
    refine lv_lload_n hx hb dX5_check_55 rfl (lv_at hl 1 rfl) ?_
    refine lv_lconst (v := 0) hx hb dX5_check_56 (by decide) ?_
    refine W.lcmp hx hb dX5_check_57 ?_
    refine lv_topi (fun x11 e12 => ?_)
    obtain rfl : x11 = 0 := e12.trans (by decide)
    refine lv_if_ne (tgt := 69) hx hb dX5_check_58 (by decide) (fun c13 => absurd c13 (by decide)) (fun c13 => ?_)
    refine lv_aload_n hx hb dX5_check_61 rfl (lv_at hl 2 rfl) ?_
    refine lv_lload_n hx hb dX5_check_62 rfl (lv_at hl 1 rfl) ?_
    have hO : OKW G h0 a (upd (upd (upd (upd (upd (upd (upd F 18 (nI ba)) 19 (nI (tp - 1))) 20 (nI pc)) 21 (nI (pc + 1))) 23 5) 26 (nI ht)) 19 (nI (tp - 1))) (updR (updR (updR R 5 (.ref pq)) 7 (.ref (a sp))) 8 (.ref (a op))) Z B J K.1 (fun q99 x99 => x99 = rep G a K q99) w := hO.to rfl
    obtain ⟨_, qr17, hqr18⟩ := hO.2.1 28 _ (sg_28 G h0 a _ _ _ _ _)
    refine pc_V0 (G := G) (As := [.long 0]) (rest := []) hx hb hml hown hq hE hX pX0_al hP hD hS hA hl.1 (Y_push l G h0 a (upd (upd (upd (upd (upd (upd F 18 (nI ba)) 19 (nI (tp - 1))) 20 (nI pc)) 21 (nI (pc + 1))) 23 5) 26 (nI ht)) (updR (updR (updR R 5 (.ref pq)) 7 (.ref (a sp))) 8 (.ref (a op))) Z B J K.1 (fun q99 x99 => x99 = rep G a K q99) w 0 (tp - 1) (by omega) hO) (gV pw_549 pw_550 pw_551 pw_539 pw_535) hV_X5_push qr17 4 hqr18 rfl rfl rfl (Nat.le_of_ble_eq_true rfl) dX5_check_63 ⟨Nat.le_of_ble_eq_true rfl, Nat.le_of_ble_eq_true rfl⟩ ⟨Nat.le_of_ble_eq_true rfl, Nat.le_of_ble_eq_true rfl⟩ (fun v16 u14 H locs hw15 hP hD hS => ?_)
    obtain ⟨w, _⟩ := u14
    obtain ⟨hw15, hO⟩ := hw15
    obtain rfl : v16 = none := hw15
    have hO : OKP G h0 a (upd (upd (upd (upd (upd (upd F 18 (nI ba)) 19 (nI ((tp - 1) + 1))) 20 (nI pc)) 21 (nI (pc + 1))) 23 5) 26 (nI ht)) (updR (updR (updR R 5 (.ref pq)) 7 (.ref (a sp))) 8 (.ref (a op))) Z B (updJ J 29 (vp_updL ((J 29)) (tp - 1) 0)) K w := hO.to rfl
    refine W.widen (k := 0) (n := 0) (Nat.le_of_ble_eq_true rfl) (Nat.le_of_ble_eq_true rfl) ?_
    refine W.eq (g2 := F0 m 66 ls []) rfl ?_
    refine lv_goto (tgt := 74) hx hb dX5_check_66 (by decide) ?_
    have hou := OuQ.num (y := y) (S := Sh) (u := u9) (z := Z) hv4 (VT.zero (Or.inr (Or.inr r2))) rfl
    have hz19 : StQ y (B 19) Sh nn ((updJ J 29 (vp_updL ((J 29)) (tp - 1) 0)) sp) ht (B 30) (B 16) on j9 ba pc fl ((tp - 1) + 1) (5 : Int32) (nI (pc + 1)) Z ((updJ J 29 (vp_updL ((J 29)) (tp - 1) 0)) 29) fl := (StQ.spq (updJ_ne h29.1) (StQ.ou hmi hmo (by rw [hop]; decide) hou r5 (Nat.le_refl _) hZ))
    have hz20 : LoE (updJ J 29 (vp_updL ((J 29)) (tp - 1) 0)) sp op := (LoE.up hle h29.1 h29.2)
    have hz21 : (B 33) 5 = nI fl := hfl
    have hz22 : fl ≤ fl ∧ ((tp - 1) + 1) ≤ 32000 := (by omega)
    have hO : OKP G h0 a (upd (upd (upd (upd (upd (upd F 18 (nI ba)) 19 (nI ((tp - 1) + 1))) 20 (nI pc)) 21 (nI (pc + 1))) 23 (5 : Int32)) 26 (nI ht)) (updR (updR (updR R 5 (.ref pq)) 7 (.ref (a sp))) 8 (.ref (a op))) Z (updA (updA B 32 (B 32)) 33 (B 33)) (updJ J 29 (vp_updL ((J 29)) (tp - 1) 0)) K w := hO.to rfl
    exact W.vret hx hb hr (fun t99 ht99 hW99 => ⟨⟨_, (w, (((tp - 1) + 1), (5 : Int32), (nI (pc + 1)), Z, (updJ J 29 (vp_updL ((J 29)) (tp - 1) 0)), (B 33), (B 32), fl)), rfl, ⟨rfl, hz19, hz20, hz21, hz22, hO⟩, by rw [ht99]; exact hP, hD⟩, hS.F ht99⟩) hS.2.2 dX5_check_74
  · skip
    rw [show ((J 29) (tp - 1)) = rfV p9 from hq9]
    obtain ⟨n9, hh19, hh29, hh39, hh49, hh59, hh69, hh79⟩ := HT.hd hht hS9
    refine lv_lstore_n (lv' := [(3, .long (rfV p9)), (0, .ref (a 5)), (1, .int 1), (2, .int (nI u9))]) hx hb dX5_check_4 rfl hl (by decide) rfl (fun ls hl => ?_)
    refine lv_lload_n hx hb dX5_check_5 rfl (lv_at hl 0 rfl) ?_
    refine lv_lconst (v := 0) hx hb dX5_check_6 (by decide) ?_
    refine W.lcmp hx hb dX5_check_7 ?_
    refine lv_topi (fun x23 e24 => ?_)
    refine lv_if_eq (tgt := 34) hx hb dX5_check_8 (by decide) (fun c25 => (rfV_n0 (p := p9) ((lg_cmp_eq _ _).mp (e24.symm.trans c25))).elim) (fun c25 => ?_)
    refine lv_aload_n hx hb dX5_check_11 rfl (lv_at hl 1 rfl) ?_
    refine c_get (v := .ref pq) (C := RX5) (Tc := TX5) (N := 19) (ci := 4) hx hb hq pin_wsX50 hown hE hP hO 28 (sg_28 G h0 a _ _ _ _ _) rfl 8 (by decide) (hq _ pw_486) (fun _ h9 => h9) rfl dX5_check_12 ?_
    refine lv_aload_n hx hb dX5_check_15 rfl (lv_at hl 1 rfl) ?_
    refine c_get (v := .ref (a 28)) (C := RX5) (Tc := TX5) (N := 19) (ci := 4) hx hb hq pin_wsX50 hown hE hP hO 28 (sg_28 G h0 a _ _ _ _ _) rfl 1 (by decide) (hq _ pw_473) (fun _ h9 => h9) rfl dX5_check_16 ?_
    refine lv_lload_n hx hb dX5_check_19 rfl (lv_at hl 0 rfl) ?_
    have hO : OKW G h0 a (upd (upd (upd (upd (upd (upd (upd F 18 (nI ba)) 19 (nI (tp - 1))) 20 (nI pc)) 21 (nI (pc + 1))) 23 5) 26 (nI ht)) 26 (nI ht)) (updR (updR (updR (updR (updR R 5 (.ref pq)) 7 (.ref (a sp))) 8 (.ref (a op))) 7 (.ref (a sp))) 8 (.ref (a op))) Z B J K.1 (fun q99 x99 => x99 = rep G a K q99) w := hO.to rfl
    obtain ⟨_, qr29, hqr30⟩ := hO.2.1 29 _ (sg_29 G h0 a _ _ _ _ _)
    refine pc_V0 (G := G) (As := [.long (rfV p9)]) (rest := [.ref pq]) hx hb hml hown hq hE hX pX0_al hP hD hS hA hl.1 (Y_typeOf l G h0 a (upd (upd (upd (upd (upd (upd F 18 (nI ba)) 19 (nI (tp - 1))) 20 (nI pc)) 21 (nI (pc + 1))) 23 5) 26 (nI ht)) (updR (updR (updR R 5 (.ref pq)) 7 (.ref (a sp))) 8 (.ref (a op))) Z B J K.1 (fun q99 x99 => x99 = rep G a K q99) w p9 n9 d9 sp op ht hsp (by omega) (by omega) hh59 hO) (gV pw_489 pw_490 pw_491 pw_440 pw_441) hV_X3_typeOf qr29 3 hqr30 rfl rfl rfl (Nat.le_of_ble_eq_true rfl) dX5_check_20 ⟨Nat.le_of_ble_eq_true rfl, Nat.le_of_ble_eq_true rfl⟩ ⟨Nat.le_of_ble_eq_true rfl, Nat.le_of_ble_eq_true rfl⟩ (fun v28 u26 H locs hw27 hP hD hS => ?_)
    obtain ⟨w, _⟩ := u26
    obtain ⟨hw27, hO⟩ := hw27
    obtain rfl : v28 = some (.int (nI d9)) := hw27
    have hO : OKP G h0 a (upd (upd (upd (upd (upd (upd F 18 (nI ba)) 19 (nI (tp - 1))) 20 (nI pc)) 21 (nI (pc + 1))) 23 5) 26 (nI ht)) (updR (updR (updR R 5 (.ref pq)) 7 (.ref (a sp))) 8 (.ref (a op))) Z B J K w := hO.to rfl
    refine W.widen (k := 0) (n := 0) (Nat.le_of_ble_eq_true rfl) (Nat.le_of_ble_eq_true rfl) ?_
    refine W.eq (g2 := F0 m 23 ls [.int (nI d9), .ref pq]) rfl ?_
    refine lv_iload_n hx hb dX5_check_23 rfl (lv_at hl 3 rfl) ?_
    have hO : OKP G h0 a (upd (upd (upd (upd (upd (upd F 18 (nI ba)) 19 (nI (tp - 1))) 20 (nI pc)) 21 (nI (pc + 1))) 23 5) 26 (nI ht)) (updR (updR (updR R 5 (.ref pq)) 7 (.ref (a sp))) 8 (.ref (a op))) Z B J K w := hO.to rfl
    obtain ⟨qr34, hqr35⟩ := p_recv hO (by rw [hp1]; decide) (rep_7 hp1)
    refine pc_V0 (G := G) (As := [.int (nI d9), .int (nI u9)]) (rest := []) hx hb hml hown hq hE hX pX0_al hP hD hS hA hl.1 (Y_fits l G h0 a (upd (upd (upd (upd (upd (upd F 18 (nI ba)) 19 (nI (tp - 1))) 20 (nI pc)) 21 (nI (pc + 1))) 23 5) 26 (nI ht)) (updR (updR (updR R 5 (.ref pq)) 7 (.ref (a sp))) 8 (.ref (a op))) Z B J K w pq dr ml nd d9 u9 g hps.1 hps.2.1 (by omega) hO) (gV pw_644 pw_112 pw_113 pw_106 pw_103) hV_X9_fits qr34 6 hqr35 rfl rfl rfl (Nat.le_of_ble_eq_true rfl) dX5_check_24 ⟨Nat.le_of_ble_eq_true rfl, Nat.le_of_ble_eq_true rfl⟩ ⟨Nat.le_of_ble_eq_true rfl, Nat.le_of_ble_eq_true rfl⟩ (fun v33 u31 H locs hw32 hP hD hS => ?_)
    obtain ⟨w, r36⟩ := u31
    obtain ⟨hw32, h37, h38, hO⟩ := hw32
    have h37 : r36 ≤ 1 := h37
    have h38 : r36 = 1 ↔ fitK (btK K dr) nd d9 u9 := h38
    obtain rfl : v33 = some (.int (nI r36)) := hw32
    have hO : OKP G h0 a (upd (upd (upd (upd (upd (upd F 18 (nI ba)) 19 (nI (tp - 1))) 20 (nI pc)) 21 (nI (pc + 1))) 23 5) 26 (nI ht)) (updR (updR (updR R 5 (.ref pq)) 7 (.ref (a sp))) 8 (.ref (a op))) Z B J K w := hO.to rfl
    refine W.widen (k := 0) (n := 0) (Nat.le_of_ble_eq_true rfl) (Nat.le_of_ble_eq_true rfl) ?_
    refine W.eq (g2 := F0 m 27 ls [.int (nI r36)]) rfl ?_
    refine lv_if_eq (tgt := 34) hx hb dX5_check_27 (by decide) (fun c39 => ?_) (fun c39 => ?_)
    · have n40 : r36 = 0 := (nI_eq (a := r36) (b := 0) (by omega) (by omega)).mp c39
      refine lv_iconst (v := 0) hx hb dX5_check_34 (by decide) ?_
      refine lv_istore (lv' := [(5, .int 0), (3, .long (rfV p9)), (0, .ref (a 5)), (1, .int 1), (2, .int (nI u9))]) hx hb dX5_check_35 hl (by decide) rfl (fun ls hl => ?_)
      refine lv_iload_n hx hb dX5_check_37 rfl (lv_at hl 3 rfl) ?_
      refine lv_if_ne (tgt := 50) hx hb dX5_check_38 (by decide) (fun c41 => ?_) (fun c41 => absurd c41 (by decide))
      refine lv_iload hx hb dX5_check_50 (lv_at hl 0 rfl) ?_
      refine lv_if_ne (tgt := 61) hx hb dX5_check_52 (by decide) (fun c42 => absurd c42 (by decide)) (fun c42 => ?_)
      refine lv_lload_n hx hb dX5_check_55 rfl (lv_at hl 1 rfl) ?_
      refine lv_lconst (v := 0) hx hb dX5_check_56 (by decide) ?_
      refine W.lcmp hx hb dX5_check_57 ?_
      refine lv_topi (fun x43 e44 => ?_)
      refine lv_if_ne (tgt := 69) hx hb dX5_check_58 (by decide) (fun c45 => ?_) (fun c45 => (rfV_n0 (p := p9) ((lg_cmp_eq _ _).mp (e44.symm.trans c45))).elim)
      refine lv_aload_n hx hb dX5_check_69 rfl (lv_at hl 2 rfl) ?_
      refine lv_iconst (v := 2) hx hb dX5_check_70 (by decide) ?_
      have hO : OKW G h0 a (upd (upd (upd (upd (upd (upd F 18 (nI ba)) 19 (nI (tp - 1))) 20 (nI pc)) 21 (nI (pc + 1))) 23 5) 26 (nI ht)) (updR (updR (updR R 5 (.ref pq)) 7 (.ref (a sp))) 8 (.ref (a op))) Z B J K.1 (fun q99 x99 => x99 = rep G a K q99) w := hO.to rfl
      obtain ⟨_, qr49, hqr50⟩ := hO.2.1 28 _ (sg_28 G h0 a _ _ _ _ _)
      refine pc_V0 (G := G) (As := [.int (nI 2)]) (rest := []) hx hb hml hown hq hE hX pX0_al hP hD hS hA hl.1 (Y_raise l G h0 a (upd (upd (upd (upd (upd (upd F 18 (nI ba)) 19 (nI (tp - 1))) 20 (nI pc)) 21 (nI (pc + 1))) 23 5) 26 (nI ht)) (updR (updR (updR R 5 (.ref pq)) 7 (.ref (a sp))) 8 (.ref (a op))) Z B J K.1 (fun q99 x99 => x99 = rep G a K q99) w 2 (by omega) hO) (gV pw_570 pw_571 pw_572 pw_539 pw_561) hV_X5_raise qr49 4 hqr50 rfl rfl rfl (Nat.le_of_ble_eq_true rfl) dX5_check_71 ⟨Nat.le_of_ble_eq_true rfl, Nat.le_of_ble_eq_true rfl⟩ ⟨Nat.le_of_ble_eq_true rfl, Nat.le_of_ble_eq_true rfl⟩ (fun v48 u46 H locs hw47 hP hD hS => ?_)
      obtain ⟨w, _⟩ := u46
      obtain ⟨hw47, hO⟩ := hw47
      obtain rfl : v48 = none := hw47
      have hO : OKP G h0 a (upd (upd (upd (upd (upd (upd F 18 (nI ba)) 19 (nI (tp - 1))) 20 (nI pc)) 21 (nI (pc + 1))) 23 5) 26 (nI ht)) (updR (updR (updR R 5 (.ref pq)) 7 (.ref (a sp))) 8 (.ref (a op))) (rfV 2) B J K w := hO.to rfl
      refine W.widen (k := 0) (n := 0) (Nat.le_of_ble_eq_true rfl) (Nat.le_of_ble_eq_true rfl) ?_
      refine W.eq (g2 := F0 m 74 ls []) rfl ?_
      have hou : OuQ y Sh j9 (J 29) (J 29) ba (tp - 1) Z (rfV 2) (wos (u9 :: os) (yA y j9 pc)) := OuQ.ra (RaO.own hmi.2.1 (by omega) (by omega))
      have hz51 : StQ y (B 19) Sh nn (J sp) ht (B 30) (B 16) on j9 ba pc fl (tp - 1) (5 : Int32) (nI (pc + 1)) (rfV 2) (J 29) fl := (StQ.spq rfl (StQ.ou hmi hmo (by rw [hop]; decide) hou r5 (Nat.le_refl _) hZ))
      have hz52 : LoE J sp op := hle
      have hz53 : (B 33) 5 = nI fl := hfl
      have hz54 : fl ≤ fl ∧ (tp - 1) ≤ 32000 := (by omega)
      have hO : OKP G h0 a (upd (upd (upd (upd (upd (upd F 18 (nI ba)) 19 (nI (tp - 1))) 20 (nI pc)) 21 (nI (pc + 1))) 23 (5 : Int32)) 26 (nI ht)) (updR (updR (updR R 5 (.ref pq)) 7 (.ref (a sp))) 8 (.ref (a op))) (rfV 2) (updA (updA B 32 (B 32)) 33 (B 33)) J K w := hO.to rfl
      exact W.vret hx hb hr (fun t99 ht99 hW99 => ⟨⟨_, (w, ((tp - 1), (5 : Int32), (nI (pc + 1)), (rfV 2), J, (B 33), (B 32), fl)), rfl, ⟨rfl, hz51, hz52, hz53, hz54, hO⟩, by rw [ht99]; exact hP, hD⟩, hS.F ht99⟩) hS.2.2 dX5_check_74
    · have n55 : ¬ (r36 = 0) := fun h9 => c39 ((nI_eq (a := r36) (b := 0) (by omega) (by omega)).mpr h9)
      have hfu : yfi y d9 u9 := PrY.fit hpy hf9 (h38.mp (by omega))
      refine lv_iconst (v := 1) hx hb dX5_check_30 (by decide) ?_
      refine lv_goto (tgt := 35) hx hb dX5_check_31 (by decide) ?_
      refine lv_istore (lv' := [(5, .int 1), (3, .long (rfV p9)), (0, .ref (a 5)), (1, .int 1), (2, .int (nI u9))]) hx hb dX5_check_35 hl (by decide) rfl (fun ls hl => ?_)
      refine lv_iload_n hx hb dX5_check_37 rfl (lv_at hl 3 rfl) ?_
      refine lv_if_ne (tgt := 50) hx hb dX5_check_38 (by decide) (fun c56 => ?_) (fun c56 => absurd c56 (by decide))
      refine lv_iload hx hb dX5_check_50 (lv_at hl 0 rfl) ?_
      refine lv_if_ne (tgt := 61) hx hb dX5_check_52 (by decide) (fun c57 => ?_) (fun c57 => absurd c57 (by decide))
      refine lv_aload_n hx hb dX5_check_61 rfl (lv_at hl 2 rfl) ?_
      refine lv_lload_n hx hb dX5_check_62 rfl (lv_at hl 1 rfl) ?_
      have hO : OKW G h0 a (upd (upd (upd (upd (upd (upd (upd F 18 (nI ba)) 19 (nI (tp - 1))) 20 (nI pc)) 21 (nI (pc + 1))) 23 5) 26 (nI ht)) 19 (nI (tp - 1))) (updR (updR (updR R 5 (.ref pq)) 7 (.ref (a sp))) 8 (.ref (a op))) Z B J K.1 (fun q99 x99 => x99 = rep G a K q99) w := hO.to rfl
      obtain ⟨_, qr61, hqr62⟩ := hO.2.1 28 _ (sg_28 G h0 a _ _ _ _ _)
      refine pc_V0 (G := G) (As := [.long (rfV p9)]) (rest := []) hx hb hml hown hq hE hX pX0_al hP hD hS hA hl.1 (Y_push l G h0 a (upd (upd (upd (upd (upd (upd F 18 (nI ba)) 19 (nI (tp - 1))) 20 (nI pc)) 21 (nI (pc + 1))) 23 5) 26 (nI ht)) (updR (updR (updR R 5 (.ref pq)) 7 (.ref (a sp))) 8 (.ref (a op))) Z B J K.1 (fun q99 x99 => x99 = rep G a K q99) w (rfV p9) (tp - 1) (by omega) hO) (gV pw_549 pw_550 pw_551 pw_539 pw_535) hV_X5_push qr61 4 hqr62 rfl rfl rfl (Nat.le_of_ble_eq_true rfl) dX5_check_63 ⟨Nat.le_of_ble_eq_true rfl, Nat.le_of_ble_eq_true rfl⟩ ⟨Nat.le_of_ble_eq_true rfl, Nat.le_of_ble_eq_true rfl⟩ (fun v60 u58 H locs hw59 hP hD hS => ?_)
      obtain ⟨w, _⟩ := u58
      obtain ⟨hw59, hO⟩ := hw59
      obtain rfl : v60 = none := hw59
      have hO : OKP G h0 a (upd (upd (upd (upd (upd (upd F 18 (nI ba)) 19 (nI ((tp - 1) + 1))) 20 (nI pc)) 21 (nI (pc + 1))) 23 5) 26 (nI ht)) (updR (updR (updR R 5 (.ref pq)) 7 (.ref (a sp))) 8 (.ref (a op))) Z B (updJ J 29 (vp_updL ((J 29)) (tp - 1) (rfV p9))) K w := hO.to rfl
      refine W.widen (k := 0) (n := 0) (Nat.le_of_ble_eq_true rfl) (Nat.le_of_ble_eq_true rfl) ?_
      refine W.eq (g2 := F0 m 66 ls []) rfl ?_
      refine lv_goto (tgt := 74) hx hb dX5_check_66 (by decide) ?_
      have hou := OuQ.num (z := Z) hv4 (Or.inr (Or.inr (Or.inr (Or.inr ⟨r2, Or.inr ⟨p9, d9, hp9, rfl, hS9, hfu⟩⟩)))) rfl
      have hz63 : StQ y (B 19) Sh nn ((updJ J 29 (vp_updL ((J 29)) (tp - 1) (rfV p9))) sp) ht (B 30) (B 16) on j9 ba pc fl ((tp - 1) + 1) (5 : Int32) (nI (pc + 1)) Z ((updJ J 29 (vp_updL ((J 29)) (tp - 1) (rfV p9))) 29) fl := (StQ.spq (updJ_ne h29.1) (StQ.ou hmi hmo (by rw [hop]; decide) hou r5 (Nat.le_refl _) hZ))
      have hz64 : LoE (updJ J 29 (vp_updL ((J 29)) (tp - 1) (rfV p9))) sp op := (LoE.up hle h29.1 h29.2)
      have hz65 : (B 33) 5 = nI fl := hfl
      have hz66 : fl ≤ fl ∧ ((tp - 1) + 1) ≤ 32000 := (by omega)
      have hO : OKP G h0 a (upd (upd (upd (upd (upd (upd F 18 (nI ba)) 19 (nI ((tp - 1) + 1))) 20 (nI pc)) 21 (nI (pc + 1))) 23 (5 : Int32)) 26 (nI ht)) (updR (updR (updR R 5 (.ref pq)) 7 (.ref (a sp))) 8 (.ref (a op))) Z (updA (updA B 32 (B 32)) 33 (B 33)) (updJ J 29 (vp_updL ((J 29)) (tp - 1) (rfV p9))) K w := hO.to rfl
      exact W.vret hx hb hr (fun t99 ht99 hW99 => ⟨⟨_, (w, (((tp - 1) + 1), (5 : Int32), (nI (pc + 1)), Z, (updJ J 29 (vp_updL ((J 29)) (tp - 1) (rfV p9))), (B 33), (B 32), fl)), rfl, ⟨rfl, hz63, hz64, hz65, hz66, hO⟩, by rw [ht99]; exact hP, hD⟩, hS.F ht99⟩) hS.2.2 dX5_check_74
set_option maxHeartbeats 20000000 in
set_option maxRecDepth 100000 in
theorem Y_length (l : Launch) (G : pT) (h0 : Nat) (a : Nat → Nat) (F : Nat → Int32) (R : Nat → Value) (Z : Int64) (B : Nat → Nat → Int32) (J : Nat → Nat → Int64) (K : PK) (w : va_W) (y : TY) (Sh : Nat → Nat) (nn : Nat → Nat) (on : Nat) (j9 : Nat) (ba : Nat) (pc : Nat) (tp : Nat) (sp : Nat) (op : Nat) (ht : Nat) (fl : Nat) (pq : Nat) (dr : Nat) (ml : Nat) (nd : Nat) (nm : Nat) (cp : Nat) (it : Nat → Nat) (s9 : Nat) (g : Nat → Nat → Nat) (rk : Nat → Nat) (cs : Nat) (rg : Nat) (hsp : (sp = 34 ∧ op = 35) ∨ (sp = 35 ∧ op = 34)) (hmi : MIy y (B 19) Sh nn (J sp) ht (B 30) (J 29) on j9 ba pc tp) (hmo : MOy y (B 16) (B 17) (B 18) (B 19) j9) (hZ : Z = 0) (hfl : B 33 5 = nI fl) (hflb : fl ≤ 20000) (hop : B 16 pc = nI 16) (hru : IRy y (B 16) (B 17) (B 18) pc j9 16) (hwp : WPr G K g) (hps : PgT G K g (a 1) pq dr ml nd nm cp it s9) (hrk : RkO K rk) (hpy : PrY y K B dr nd nm it cs rg) (hle : LoE J sp op) (hO : OKP G h0 a (upd (upd (upd (upd (upd (upd F 18 (nI ba)) 19 (nI tp)) 20 (nI pc)) 21 (nI (pc + 1))) 23 5) 26 (nI ht)) (updR (updR (updR R 5 (.ref pq)) 7 (.ref (a sp))) 8 (.ref (a op))) Z B J K w) : PM l G pX0 yX5_length cX5_length 3 none ({ frames := 5, cells := 0, slots := 0, locals := 129 }) [.ref (a 5)] w (fun (v : Option Value) (u : va_W × (Nat × Int32 × Int32 × Int64 × (Nat → Nat → Int64) × (Nat → Int32) × (Nat → Int32) × Nat)) => v = none ∧ (StQ y (B 19) Sh nn (u.2.2.2.2.2.1 sp) ht (B 30) (B 16) on j9 ba pc fl u.2.1 u.2.2.1 u.2.2.2.1 u.2.2.2.2.1 (u.2.2.2.2.2.1 29) u.2.2.2.2.2.2.2.2) ∧ (LoE u.2.2.2.2.2.1 sp op) ∧ (u.2.2.2.2.2.2.1 5 = nI u.2.2.2.2.2.2.2.2) ∧ (u.2.2.2.2.2.2.2.2 ≤ fl ∧ u.2.1 ≤ 32000) ∧ (OKP G h0 a (upd (upd (upd (upd (upd (upd F 18 (nI ba)) 19 (nI u.2.1)) 20 (nI pc)) 21 u.2.2.2.1) 23 u.2.2.1) 26 (nI ht)) (updR (updR (updR R 5 (.ref pq)) 7 (.ref (a sp))) 8 (.ref (a op))) u.2.2.2.2.1 (updA (updA B 32 u.2.2.2.2.2.2.2.1) 33 u.2.2.2.2.2.2.1) u.2.2.2.2.2.1 K u.1)) (fun u => u.1) := by
  intro sz
  refine Met.ofW (cc := cX5_length) (maxL := 3) (ret := none) (by decide) rfl ?_
  intro p e s m args below meth c s₁ B9 hml hv
  obtain ⟨rfl, hsz, hP, hD0, hE, hX⟩ := hv
  have hx := B9.exec
  have hb := B9.bytes
  have hr := B9.returns
  have hts := atoms_spec (ws := Cond.code yX5_length cX5_length 3 none :: pw) B9.pre
  have hq : ∀ w ∈ pw, w.before _ s = true := fun w h => hts w (List.mem_cons_of_mem _ h)
  have hown : s.vm.findClass RX5 = some m.cls := findClass_of_methodNamed B9.named
  have hlocks := B9.notSynchronized
  subst hsz
  have hD := hD0.self (sz := s.heap.size)
  have hA : ∀ q : Nat, s.heap.size ≤ q → va_A w s.heap.size q := fun q h => Or.inr h
  generalize va_A w s.heap.size = A at hD hE hA ⊢
  have hS : va_S A s.heap s.heap [] := va_S.rf
  have hl := lv_entry ([.ref (a 5)]) (n := 3) (Nat.le_of_ble_eq_true rfl)
  rw [lg_entry_eq]
  generalize (lg_sl ([.ref (a 5)]) ++ List.replicate (3 - (lg_sl ([.ref (a 5)])).length) Slot.unset).toArray = ls at hl ⊢
  have hl : lv_has ls 3 [(0, .ref (a 5))] := hl
  obtain ⟨hn1, hn2, hn3, hn4, hn5, hn6, hn7, hn8, hn9, hn10, hn11, hn12⟩ := MIy.nums hmi hmo
  have hlo := FFy.lo hmi.ff
  have hpg := hps.1
  have hp1 := hpg.1
  have hp2 := hpg.2.1
  have hp3 := hpg.2.2.1
  have hp4 := hpg.2.2.2.1
  have hp5 := hpg.2.2.2.2.1
  have hp6 := hpg.2.2.2.2.2.1
  have hp8 := hpg.2.2.2.2.2.2.2.1
  have hp9 := hpg.2.2.2.2.2.2.2.2
  have h29 : ¬ sp = 29 ∧ ¬ op = 29 := by omega
  have hht := hmi.1.2.2.2
  obtain ⟨t9, os, r1, r2, r3⟩ := hru
  obtain ⟨hv1, hv2, hv3, hv4⟩ := FFy.pop hmi.ff r1
  refine lv_aload_n hx hb dX5_length_0 rfl (lv_at hl 0 rfl) ?_
  have hO : OKW G h0 a (upd (upd (upd (upd (upd (upd (upd F 18 (nI ba)) 19 (nI tp)) 20 (nI pc)) 21 (nI (pc + 1))) 23 5) 26 (nI ht)) 19 (nI tp)) (updR (updR (updR R 5 (.ref pq)) 7 (.ref (a sp))) 8 (.ref (a op))) Z B J K.1 (fun q99 x99 => x99 = rep G a K q99) w := hO.to rfl
  obtain ⟨_, qr4, hqr5⟩ := hO.2.1 28 _ (sg_28 G h0 a _ _ _ _ _)
  refine pc_V0 (G := G) (As := []) (rest := []) hx hb hml hown hq hE hX pX0_al hP hD hS hA hl.1 (Y_pop l G h0 a (upd (upd (upd (upd (upd (upd F 18 (nI ba)) 19 (nI tp)) 20 (nI pc)) 21 (nI (pc + 1))) 23 5) 26 (nI ht)) (updR (updR (updR R 5 (.ref pq)) 7 (.ref (a sp))) 8 (.ref (a op))) Z B J K.1 (fun q99 x99 => x99 = rep G a K q99) w tp (by omega) hO) (gV pw_598 pw_599 pw_600 pw_539 pw_595) hV_X5_pop qr4 4 hqr5 rfl rfl rfl (Nat.le_of_ble_eq_true rfl) dX5_length_1 ⟨Nat.le_of_ble_eq_true rfl, Nat.le_of_ble_eq_true rfl⟩ ⟨Nat.le_of_ble_eq_true rfl, Nat.le_of_ble_eq_true rfl⟩ (fun v3 u1 H locs hw2 hP hD hS => ?_)
  obtain ⟨w, _⟩ := u1
  obtain ⟨hw2, hO⟩ := hw2
  obtain rfl : v3 = some (.long ((J 29) (tp - 1))) := hw2
  have hO : OKP G h0 a (upd (upd (upd (upd (upd (upd F 18 (nI ba)) 19 (nI (tp - 1))) 20 (nI pc)) 21 (nI (pc + 1))) 23 5) 26 (nI ht)) (updR (updR (updR R 5 (.ref pq)) 7 (.ref (a sp))) 8 (.ref (a op))) Z B J K w := hO.to rfl
  refine W.widen (k := 0) (n := 0) (Nat.le_of_ble_eq_true rfl) (Nat.le_of_ble_eq_true rfl) ?_
  refine W.eq (g2 := F0 m 4 ls [.long ((J 29) (tp - 1))]) rfl ?_
  rcases VT.rf hv3 r2 with hq9 | ⟨p9, d9, hp9, hq9, hS9, hf9⟩
  · skip
    rw [show ((J 29) (tp - 1)) = 0 from hq9]
    refine lv_lstore_n (lv' := [(1, .long 0), (0, .ref (a 5))]) hx hb dX5_length_4 rfl hl (by decide) rfl (fun ls hl => ?_)
    refine lv_lload_n hx hb dX5_length_5 rfl (lv_at hl 0 rfl) ?_
    refine lv_lconst (v := 0) hx hb dX5_length_6 (by decide) ?_
    refine W.lcmp hx hb dX5_length_7 ?_
    refine lv_topi (fun x6 e7 => ?_)
    obtain rfl : x6 = 0 := e7.trans (by decide)
    refine lv_if_ne (tgt := 19) hx hb dX5_length_8 (by decide) (fun c8 => absurd c8 (by decide)) (fun c8 => ?_)
    refine lv_aload_n hx hb dX5_length_11 rfl (lv_at hl 1 rfl) ?_
    refine lv_iconst (v := 1) hx hb dX5_length_12 (by decide) ?_
    have hO : OKW G h0 a (upd (upd (upd (upd (upd (upd F 18 (nI ba)) 19 (nI (tp - 1))) 20 (nI pc)) 21 (nI (pc + 1))) 23 5) 26 (nI ht)) (updR (updR (updR R 5 (.ref pq)) 7 (.ref (a sp))) 8 (.ref (a op))) Z B J K.1 (fun q99 x99 => x99 = rep G a K q99) w := hO.to rfl
    obtain ⟨_, qr12, hqr13⟩ := hO.2.1 28 _ (sg_28 G h0 a _ _ _ _ _)
    refine pc_V0 (G := G) (As := [.int (nI 1)]) (rest := []) hx hb hml hown hq hE hX pX0_al hP hD hS hA hl.1 (Y_raise l G h0 a (upd (upd (upd (upd (upd (upd F 18 (nI ba)) 19 (nI (tp - 1))) 20 (nI pc)) 21 (nI (pc + 1))) 23 5) 26 (nI ht)) (updR (updR (updR R 5 (.ref pq)) 7 (.ref (a sp))) 8 (.ref (a op))) Z B J K.1 (fun q99 x99 => x99 = rep G a K q99) w 1 (by omega) hO) (gV pw_570 pw_571 pw_572 pw_539 pw_561) hV_X5_raise qr12 4 hqr13 rfl rfl rfl (Nat.le_of_ble_eq_true rfl) dX5_length_13 ⟨Nat.le_of_ble_eq_true rfl, Nat.le_of_ble_eq_true rfl⟩ ⟨Nat.le_of_ble_eq_true rfl, Nat.le_of_ble_eq_true rfl⟩ (fun v11 u9 H locs hw10 hP hD hS => ?_)
    obtain ⟨w, _⟩ := u9
    obtain ⟨hw10, hO⟩ := hw10
    obtain rfl : v11 = none := hw10
    have hO : OKP G h0 a (upd (upd (upd (upd (upd (upd F 18 (nI ba)) 19 (nI (tp - 1))) 20 (nI pc)) 21 (nI (pc + 1))) 23 5) 26 (nI ht)) (updR (updR (updR R 5 (.ref pq)) 7 (.ref (a sp))) 8 (.ref (a op))) (rfV 1) B J K w := hO.to rfl
    refine W.widen (k := 0) (n := 0) (Nat.le_of_ble_eq_true rfl) (Nat.le_of_ble_eq_true rfl) ?_
    refine W.eq (g2 := F0 m 16 ls []) rfl ?_
    refine lv_goto (tgt := 31) hx hb dX5_length_16 (by decide) ?_
    have hou : OuQ y Sh j9 (J 29) (J 29) ba (tp - 1) Z (rfV 1) (wos (60 :: os) (yA y j9 pc)) := OuQ.ra (RaO.own hmi.2.1 (by omega) (by omega))
    have hz14 : StQ y (B 19) Sh nn (J sp) ht (B 30) (B 16) on j9 ba pc fl (tp - 1) (5 : Int32) (nI (pc + 1)) (rfV 1) (J 29) fl := (StQ.spq rfl (StQ.ou hmi hmo (by rw [hop]; decide) hou r3 (Nat.le_refl _) hZ))
    have hz15 : LoE J sp op := hle
    have hz16 : (B 33) 5 = nI fl := hfl
    have hz17 : fl ≤ fl ∧ (tp - 1) ≤ 32000 := (by omega)
    have hO : OKP G h0 a (upd (upd (upd (upd (upd (upd F 18 (nI ba)) 19 (nI (tp - 1))) 20 (nI pc)) 21 (nI (pc + 1))) 23 (5 : Int32)) 26 (nI ht)) (updR (updR (updR R 5 (.ref pq)) 7 (.ref (a sp))) 8 (.ref (a op))) (rfV 1) (updA (updA B 32 (B 32)) 33 (B 33)) J K w := hO.to rfl
    exact W.vret hx hb hr (fun t99 ht99 hW99 => ⟨⟨_, (w, ((tp - 1), (5 : Int32), (nI (pc + 1)), (rfV 1), J, (B 33), (B 32), fl)), rfl, ⟨rfl, hz14, hz15, hz16, hz17, hO⟩, by rw [ht99]; exact hP, hD⟩, hS.F ht99⟩) hS.2.2 dX5_length_31
  · skip
    rw [show ((J 29) (tp - 1)) = rfV p9 from hq9]
    obtain ⟨n9, hh19, hh29, hh39, hh49, hh59, hh69, hh79⟩ := HT.hd hht hS9
    obtain ⟨a9, ha9, han⟩ := HT.ah hht hS9 (fun h => (hh69 h).1) hh19 (fun h => by have := hh79 h; omega)
    refine lv_lstore_n (lv' := [(1, .long (rfV p9)), (0, .ref (a 5))]) hx hb dX5_length_4 rfl hl (by decide) rfl (fun ls hl => ?_)
    refine lv_lload_n hx hb dX5_length_5 rfl (lv_at hl 0 rfl) ?_
    refine lv_lconst (v := 0) hx hb dX5_length_6 (by decide) ?_
    refine W.lcmp hx hb dX5_length_7 ?_
    refine lv_topi (fun x18 e19 => ?_)
    refine lv_if_ne (tgt := 19) hx hb dX5_length_8 (by decide) (fun c20 => ?_) (fun c20 => (rfV_n0 (p := p9) ((lg_cmp_eq _ _).mp (e19.symm.trans c20))).elim)
    refine lv_aload_n hx hb dX5_length_19 rfl (lv_at hl 1 rfl) ?_
    refine lv_aload_n hx hb dX5_length_20 rfl (lv_at hl 1 rfl) ?_
    refine c_get (v := .ref (a 28)) (C := RX5) (Tc := TX5) (N := 19) (ci := 4) hx hb hq pin_wsX50 hown hE hP hO 28 (sg_28 G h0 a _ _ _ _ _) rfl 1 (by decide) (hq _ pw_473) (fun _ h9 => h9) rfl dX5_length_21 ?_
    refine lv_lload_n hx hb dX5_length_24 rfl (lv_at hl 0 rfl) ?_
    have hO : OKW G h0 a (upd (upd (upd (upd (upd (upd (upd F 18 (nI ba)) 19 (nI (tp - 1))) 20 (nI pc)) 21 (nI (pc + 1))) 23 5) 26 (nI ht)) 26 (nI ht)) (updR (updR (updR (updR (updR R 5 (.ref pq)) 7 (.ref (a sp))) 8 (.ref (a op))) 7 (.ref (a sp))) 8 (.ref (a op))) Z B J K.1 (fun q99 x99 => x99 = rep G a K q99) w := hO.to rfl
    obtain ⟨_, qr24, hqr25⟩ := hO.2.1 29 _ (sg_29 G h0 a _ _ _ _ _)
    refine pc_V0 (G := G) (As := [.long (rfV p9)]) (rest := [.ref (a 5)]) hx hb hml hown hq hE hX pX0_al hP hD hS hA hl.1 (Y_partsOf l G h0 a (upd (upd (upd (upd (upd (upd F 18 (nI ba)) 19 (nI (tp - 1))) 20 (nI pc)) 21 (nI (pc + 1))) 23 5) 26 (nI ht)) (updR (updR (updR R 5 (.ref pq)) 7 (.ref (a sp))) 8 (.ref (a op))) Z B J K.1 (fun q99 x99 => x99 = rep G a K q99) w p9 n9 d9 sp op ht a9 hsp (by omega) (by omega) hh59 ha9 (by omega) hO) (gV pw_646 pw_454 pw_455 pw_440 pw_448) hV_X3_partsOf qr24 3 hqr25 rfl rfl rfl (Nat.le_of_ble_eq_true rfl) dX5_length_25 ⟨Nat.le_of_ble_eq_true rfl, Nat.le_of_ble_eq_true rfl⟩ ⟨Nat.le_of_ble_eq_true rfl, Nat.le_of_ble_eq_true rfl⟩ (fun v23 u21 H locs hw22 hP hD hS => ?_)
    obtain ⟨w, _⟩ := u21
    obtain ⟨hw22, hO⟩ := hw22
    obtain rfl : v23 = some (.int (nI (n9 - a9))) := hw22
    have hO : OKP G h0 a (upd (upd (upd (upd (upd (upd F 18 (nI ba)) 19 (nI (tp - 1))) 20 (nI pc)) 21 (nI (pc + 1))) 23 5) 26 (nI ht)) (updR (updR (updR R 5 (.ref pq)) 7 (.ref (a sp))) 8 (.ref (a op))) Z B J K w := hO.to rfl
    refine W.widen (k := 0) (n := 0) (Nat.le_of_ble_eq_true rfl) (Nat.le_of_ble_eq_true rfl) ?_
    refine W.eq (g2 := F0 m 28 ls [.int (nI (n9 - a9)), .ref (a 5)]) rfl ?_
    have hO : OKW G h0 a (upd (upd (upd (upd (upd (upd (upd F 18 (nI ba)) 19 (nI (tp - 1))) 20 (nI pc)) 21 (nI (pc + 1))) 23 5) 26 (nI ht)) 19 (nI (tp - 1))) (updR (updR (updR R 5 (.ref pq)) 7 (.ref (a sp))) 8 (.ref (a op))) Z B J K.1 (fun q99 x99 => x99 = rep G a K q99) w := hO.to rfl
    obtain ⟨_, qr29, hqr30⟩ := hO.2.1 28 _ (sg_28 G h0 a _ _ _ _ _)
    refine pc_V0 (G := G) (As := [.int (nI (n9 - a9))]) (rest := []) hx hb hml hown hq hE hX pX0_al hP hD hS hA hl.1 (Y_pushNumber l G h0 a (upd (upd (upd (upd (upd (upd F 18 (nI ba)) 19 (nI (tp - 1))) 20 (nI pc)) 21 (nI (pc + 1))) 23 5) 26 (nI ht)) (updR (updR (updR R 5 (.ref pq)) 7 (.ref (a sp))) 8 (.ref (a op))) Z B J K.1 (fun q99 x99 => x99 = rep G a K q99) w (nI (n9 - a9)) (tp - 1) (by omega) hO) (gV pw_605 pw_606 pw_607 pw_539 pw_602) hV_X5_pushNumber qr29 4 hqr30 rfl rfl rfl (Nat.le_of_ble_eq_true rfl) dX5_length_28 ⟨Nat.le_of_ble_eq_true rfl, Nat.le_of_ble_eq_true rfl⟩ ⟨Nat.le_of_ble_eq_true rfl, Nat.le_of_ble_eq_true rfl⟩ (fun v28 u26 H locs hw27 hP hD hS => ?_)
    obtain ⟨w, _⟩ := u26
    obtain ⟨hw27, hO⟩ := hw27
    obtain rfl : v28 = none := hw27
    have hO : OKP G h0 a (upd (upd (upd (upd (upd (upd F 18 (nI ba)) 19 (nI ((tp - 1) + 1))) 20 (nI pc)) 21 (nI (pc + 1))) 23 5) 26 (nI ht)) (updR (updR (updR R 5 (.ref pq)) 7 (.ref (a sp))) 8 (.ref (a op))) Z B (updJ J 29 (vp_updL ((J 29)) (tp - 1) (nmV (nI (n9 - a9))))) K w := hO.to rfl
    refine W.widen (k := 0) (n := 0) (Nat.le_of_ble_eq_true rfl) (Nat.le_of_ble_eq_true rfl) ?_
    refine W.eq (g2 := F0 m 31 ls []) rfl ?_
    have hou := OuQ.num (y := y) (S := Sh) (z := Z) hv4 (VT.num (x := nI (n9 - a9))) rfl
    have hz31 : StQ y (B 19) Sh nn ((updJ J 29 (vp_updL ((J 29)) (tp - 1) (nmV (nI (n9 - a9))))) sp) ht (B 30) (B 16) on j9 ba pc fl ((tp - 1) + 1) (5 : Int32) (nI (pc + 1)) Z ((updJ J 29 (vp_updL ((J 29)) (tp - 1) (nmV (nI (n9 - a9))))) 29) fl := (StQ.spq (updJ_ne h29.1) (StQ.ou hmi hmo (by rw [hop]; decide) hou r3 (Nat.le_refl _) hZ))
    have hz32 : LoE (updJ J 29 (vp_updL ((J 29)) (tp - 1) (nmV (nI (n9 - a9))))) sp op := (LoE.up hle h29.1 h29.2)
    have hz33 : (B 33) 5 = nI fl := hfl
    have hz34 : fl ≤ fl ∧ ((tp - 1) + 1) ≤ 32000 := (by omega)
    have hO : OKP G h0 a (upd (upd (upd (upd (upd (upd F 18 (nI ba)) 19 (nI ((tp - 1) + 1))) 20 (nI pc)) 21 (nI (pc + 1))) 23 (5 : Int32)) 26 (nI ht)) (updR (updR (updR R 5 (.ref pq)) 7 (.ref (a sp))) 8 (.ref (a op))) Z (updA (updA B 32 (B 32)) 33 (B 33)) (updJ J 29 (vp_updL ((J 29)) (tp - 1) (nmV (nI (n9 - a9))))) K w := hO.to rfl
    exact W.vret hx hb hr (fun t99 ht99 hW99 => ⟨⟨_, (w, (((tp - 1) + 1), (5 : Int32), (nI (pc + 1)), Z, (updJ J 29 (vp_updL ((J 29)) (tp - 1) (nmV (nI (n9 - a9))))), (B 33), (B 32), fl)), rfl, ⟨rfl, hz31, hz32, hz33, hz34, hO⟩, by rw [ht99]; exact hP, hD⟩, hS.F ht99⟩) hS.2.2 dX5_length_31
set_option maxHeartbeats 20000000 in
set_option maxRecDepth 100000 in
theorem Y_getField (l : Launch) (G : pT) (h0 : Nat) (a : Nat → Nat) (F : Nat → Int32) (R : Nat → Value) (Z : Int64) (B : Nat → Nat → Int32) (J : Nat → Nat → Int64) (K : PK) (w : va_W) (y : TY) (Sh : Nat → Nat) (nn : Nat → Nat) (on : Nat) (j9 : Nat) (ba : Nat) (pc : Nat) (tp : Nat) (sp : Nat) (op : Nat) (ht : Nat) (fl : Nat) (pq : Nat) (dr : Nat) (ml : Nat) (nd : Nat) (nm : Nat) (cp : Nat) (it : Nat → Nat) (s9 : Nat) (g : Nat → Nat → Nat) (rk : Nat → Nat) (cs : Nat) (rg : Nat) (hsp : (sp = 34 ∧ op = 35) ∨ (sp = 35 ∧ op = 34)) (hmi : MIy y (B 19) Sh nn (J sp) ht (B 30) (J 29) on j9 ba pc tp) (hmo : MOy y (B 16) (B 17) (B 18) (B 19) j9) (hZ : Z = 0) (hfl : B 33 5 = nI fl) (hflb : fl ≤ 20000) (hop : B 16 pc = nI 17) (hru : IRy y (B 16) (B 17) (B 18) pc j9 17) (hwp : WPr G K g) (hps : PgT G K g (a 1) pq dr ml nd nm cp it s9) (hrk : RkO K rk) (hpy : PrY y K B dr nd nm it cs rg) (hle : LoE J sp op) (hO : OKP G h0 a (upd (upd (upd (upd (upd (upd F 18 (nI ba)) 19 (nI tp)) 20 (nI pc)) 21 (nI (pc + 1))) 23 5) 26 (nI ht)) (updR (updR (updR R 5 (.ref pq)) 7 (.ref (a sp))) 8 (.ref (a op))) Z B J K w) : PM l G pX0 yX5_getField cX5_getField 4 none ({ frames := 6, cells := 0, slots := 0, locals := 153 }) [.ref (a 5), .int (B 17 pc)] w (fun (v : Option Value) (u : va_W × (Nat × Int32 × Int32 × Int64 × (Nat → Nat → Int64) × (Nat → Int32) × (Nat → Int32) × Nat)) => v = none ∧ (StQ y (B 19) Sh nn (u.2.2.2.2.2.1 sp) ht (B 30) (B 16) on j9 ba pc fl u.2.1 u.2.2.1 u.2.2.2.1 u.2.2.2.2.1 (u.2.2.2.2.2.1 29) u.2.2.2.2.2.2.2.2) ∧ (LoE u.2.2.2.2.2.1 sp op) ∧ (u.2.2.2.2.2.2.1 5 = nI u.2.2.2.2.2.2.2.2) ∧ (u.2.2.2.2.2.2.2.2 ≤ fl ∧ u.2.1 ≤ 32000) ∧ (OKP G h0 a (upd (upd (upd (upd (upd (upd F 18 (nI ba)) 19 (nI u.2.1)) 20 (nI pc)) 21 u.2.2.2.1) 23 u.2.2.1) 26 (nI ht)) (updR (updR (updR R 5 (.ref pq)) 7 (.ref (a sp))) 8 (.ref (a op))) u.2.2.2.2.1 (updA (updA B 32 u.2.2.2.2.2.2.2.1) 33 u.2.2.2.2.2.2.1) u.2.2.2.2.2.1 K u.1)) (fun u => u.1) := by
  intro sz
  refine Met.ofW (cc := cX5_getField) (maxL := 4) (ret := none) (by decide) rfl ?_
  intro p e s m args below meth c s₁ B9 hml hv
  obtain ⟨rfl, hsz, hP, hD0, hE, hX⟩ := hv
  have hx := B9.exec
  have hb := B9.bytes
  have hr := B9.returns
  have hts := atoms_spec (ws := Cond.code yX5_getField cX5_getField 4 none :: pw) B9.pre
  have hq : ∀ w ∈ pw, w.before _ s = true := fun w h => hts w (List.mem_cons_of_mem _ h)
  have hown : s.vm.findClass RX5 = some m.cls := findClass_of_methodNamed B9.named
  have hlocks := B9.notSynchronized
  subst hsz
  have hD := hD0.self (sz := s.heap.size)
  have hA : ∀ q : Nat, s.heap.size ≤ q → va_A w s.heap.size q := fun q h => Or.inr h
  generalize va_A w s.heap.size = A at hD hE hA ⊢
  have hS : va_S A s.heap s.heap [] := va_S.rf
  have hl := lv_entry ([.ref (a 5), .int (B 17 pc)]) (n := 4) (Nat.le_of_ble_eq_true rfl)
  rw [lg_entry_eq]
  generalize (lg_sl ([.ref (a 5), .int (B 17 pc)]) ++ List.replicate (4 - (lg_sl ([.ref (a 5), .int (B 17 pc)])).length) Slot.unset).toArray = ls at hl ⊢
  have hl : lv_has ls 4 [(0, .ref (a 5)), (1, .int (B 17 pc))] := hl
  obtain ⟨hn1, hn2, hn3, hn4, hn5, hn6, hn7, hn8, hn9, hn10, hn11, hn12⟩ := MIy.nums hmi hmo
  have hlo := FFy.lo hmi.ff
  have hpg := hps.1
  have hp1 := hpg.1
  have hp2 := hpg.2.1
  have hp3 := hpg.2.2.1
  have hp4 := hpg.2.2.2.1
  have hp5 := hpg.2.2.2.2.1
  have hp6 := hpg.2.2.2.2.2.1
  have hp8 := hpg.2.2.2.2.2.2.2.1
  have hp9 := hpg.2.2.2.2.2.2.2.2
  have h29 : ¬ sp = 29 ∧ ¬ op = 29 := by omega
  have hht := hmi.1.2.2.2
  obtain ⟨c9, k9, os, r1, r2, r3, r4, r5⟩ := hru
  obtain ⟨hv1, hv2, hv3, hv4⟩ := FFy.pop hmi.ff r2
  rw [r1] at hl
  refine lv_aload_n hx hb dX5_getField_0 rfl (lv_at hl 0 rfl) ?_
  have hO : OKW G h0 a (upd (upd (upd (upd (upd (upd (upd F 18 (nI ba)) 19 (nI tp)) 20 (nI pc)) 21 (nI (pc + 1))) 23 5) 26 (nI ht)) 19 (nI tp)) (updR (updR (updR R 5 (.ref pq)) 7 (.ref (a sp))) 8 (.ref (a op))) Z B J K.1 (fun q99 x99 => x99 = rep G a K q99) w := hO.to rfl
  obtain ⟨_, qr4, hqr5⟩ := hO.2.1 28 _ (sg_28 G h0 a _ _ _ _ _)
  refine pc_V0 (G := G) (As := []) (rest := []) hx hb hml hown hq hE hX pX0_al hP hD hS hA hl.1 (Y_pop l G h0 a (upd (upd (upd (upd (upd (upd F 18 (nI ba)) 19 (nI tp)) 20 (nI pc)) 21 (nI (pc + 1))) 23 5) 26 (nI ht)) (updR (updR (updR R 5 (.ref pq)) 7 (.ref (a sp))) 8 (.ref (a op))) Z B J K.1 (fun q99 x99 => x99 = rep G a K q99) w tp (by omega) hO) (gV pw_598 pw_599 pw_600 pw_539 pw_595) hV_X5_pop qr4 4 hqr5 rfl rfl rfl (Nat.le_of_ble_eq_true rfl) dX5_getField_1 ⟨Nat.le_of_ble_eq_true rfl, Nat.le_of_ble_eq_true rfl⟩ ⟨Nat.le_of_ble_eq_true rfl, Nat.le_of_ble_eq_true rfl⟩ (fun v3 u1 H locs hw2 hP hD hS => ?_)
  obtain ⟨w, _⟩ := u1
  obtain ⟨hw2, hO⟩ := hw2
  obtain rfl : v3 = some (.long ((J 29) (tp - 1))) := hw2
  have hO : OKP G h0 a (upd (upd (upd (upd (upd (upd F 18 (nI ba)) 19 (nI (tp - 1))) 20 (nI pc)) 21 (nI (pc + 1))) 23 5) 26 (nI ht)) (updR (updR (updR R 5 (.ref pq)) 7 (.ref (a sp))) 8 (.ref (a op))) Z B J K w := hO.to rfl
  refine W.widen (k := 0) (n := 0) (Nat.le_of_ble_eq_true rfl) (Nat.le_of_ble_eq_true rfl) ?_
  refine W.eq (g2 := F0 m 4 ls [.long ((J 29) (tp - 1))]) rfl ?_
  rcases VT.rf hv3 (Or.inl r3) with hq9 | ⟨p9, d9, hp9, hq9, hS9, hf9⟩
  · skip
    rw [show ((J 29) (tp - 1)) = 0 from hq9]
    refine lv_lstore_n (lv' := [(2, .long 0), (0, .ref (a 5)), (1, .int (nI k9))]) hx hb dX5_getField_4 rfl hl (by decide) rfl (fun ls hl => ?_)
    refine lv_lload_n hx hb dX5_getField_5 rfl (lv_at hl 0 rfl) ?_
    refine lv_lconst (v := 0) hx hb dX5_getField_6 (by decide) ?_
    refine W.lcmp hx hb dX5_getField_7 ?_
    refine lv_topi (fun x6 e7 => ?_)
    obtain rfl : x6 = 0 := e7.trans (by decide)
    refine lv_if_ne (tgt := 19) hx hb dX5_getField_8 (by decide) (fun c8 => absurd c8 (by decide)) (fun c8 => ?_)
    refine lv_aload_n hx hb dX5_getField_11 rfl (lv_at hl 1 rfl) ?_
    refine lv_iconst (v := 1) hx hb dX5_getField_12 (by decide) ?_
    have hO : OKW G h0 a (upd (upd (upd (upd (upd (upd F 18 (nI ba)) 19 (nI (tp - 1))) 20 (nI pc)) 21 (nI (pc + 1))) 23 5) 26 (nI ht)) (updR (updR (updR R 5 (.ref pq)) 7 (.ref (a sp))) 8 (.ref (a op))) Z B J K.1 (fun q99 x99 => x99 = rep G a K q99) w := hO.to rfl
    obtain ⟨_, qr12, hqr13⟩ := hO.2.1 28 _ (sg_28 G h0 a _ _ _ _ _)
    refine pc_V0 (G := G) (As := [.int (nI 1)]) (rest := []) hx hb hml hown hq hE hX pX0_al hP hD hS hA hl.1 (Y_raise l G h0 a (upd (upd (upd (upd (upd (upd F 18 (nI ba)) 19 (nI (tp - 1))) 20 (nI pc)) 21 (nI (pc + 1))) 23 5) 26 (nI ht)) (updR (updR (updR R 5 (.ref pq)) 7 (.ref (a sp))) 8 (.ref (a op))) Z B J K.1 (fun q99 x99 => x99 = rep G a K q99) w 1 (by omega) hO) (gV pw_570 pw_571 pw_572 pw_539 pw_561) hV_X5_raise qr12 4 hqr13 rfl rfl rfl (Nat.le_of_ble_eq_true rfl) dX5_getField_13 ⟨Nat.le_of_ble_eq_true rfl, Nat.le_of_ble_eq_true rfl⟩ ⟨Nat.le_of_ble_eq_true rfl, Nat.le_of_ble_eq_true rfl⟩ (fun v11 u9 H locs hw10 hP hD hS => ?_)
    obtain ⟨w, _⟩ := u9
    obtain ⟨hw10, hO⟩ := hw10
    obtain rfl : v11 = none := hw10
    have hO : OKP G h0 a (upd (upd (upd (upd (upd (upd F 18 (nI ba)) 19 (nI (tp - 1))) 20 (nI pc)) 21 (nI (pc + 1))) 23 5) 26 (nI ht)) (updR (updR (updR R 5 (.ref pq)) 7 (.ref (a sp))) 8 (.ref (a op))) (rfV 1) B J K w := hO.to rfl
    refine W.widen (k := 0) (n := 0) (Nat.le_of_ble_eq_true rfl) (Nat.le_of_ble_eq_true rfl) ?_
    refine W.eq (g2 := F0 m 16 ls []) rfl ?_
    refine lv_goto (tgt := 32) hx hb dX5_getField_16 (by decide) ?_
    have hou : OuQ y Sh j9 (J 29) (J 29) ba (tp - 1) Z (rfV 1) (wos (yft y c9 k9 :: os) (yA y j9 pc)) := OuQ.ra (RaO.own hmi.2.1 (by omega) (by omega))
    have hz14 : StQ y (B 19) Sh nn (J sp) ht (B 30) (B 16) on j9 ba pc fl (tp - 1) (5 : Int32) (nI (pc + 1)) (rfV 1) (J 29) fl := (StQ.spq rfl (StQ.ou hmi hmo (by rw [hop]; decide) hou r5 (Nat.le_refl _) hZ))
    have hz15 : LoE J sp op := hle
    have hz16 : (B 33) 5 = nI fl := hfl
    have hz17 : fl ≤ fl ∧ (tp - 1) ≤ 32000 := (by omega)
    have hO : OKP G h0 a (upd (upd (upd (upd (upd (upd F 18 (nI ba)) 19 (nI (tp - 1))) 20 (nI pc)) 21 (nI (pc + 1))) 23 (5 : Int32)) 26 (nI ht)) (updR (updR (updR R 5 (.ref pq)) 7 (.ref (a sp))) 8 (.ref (a op))) (rfV 1) (updA (updA B 32 (B 32)) 33 (B 33)) J K w := hO.to rfl
    exact W.vret hx hb hr (fun t99 ht99 hW99 => ⟨⟨_, (w, ((tp - 1), (5 : Int32), (nI (pc + 1)), (rfV 1), J, (B 33), (B 32), fl)), rfl, ⟨rfl, hz14, hz15, hz16, hz17, hO⟩, by rw [ht99]; exact hP, hD⟩, hS.F ht99⟩) hS.2.2 dX5_getField_32
  · skip
    rw [show ((J 29) (tp - 1)) = rfV p9 from hq9]
    obtain ⟨n9, hh19, hh29, hh39, hh49, hh59, hh69, hh79⟩ := HT.hd hht hS9
    obtain ⟨hd6, hkd, hft⟩ := hpy.2.2.2.2.2.1 d9 c9 k9 hf9 r3 r4
    obtain ⟨hf1, hf2, hf3, hf4⟩ := HT.fld hht hpy hS9 hd6 hkd
    have hf5 := (hh69 hf1).1
    rw [hft] at hf4
    refine lv_lstore_n (lv' := [(2, .long (rfV p9)), (0, .ref (a 5)), (1, .int (nI k9))]) hx hb dX5_getField_4 rfl hl (by decide) rfl (fun ls hl => ?_)
    refine lv_lload_n hx hb dX5_getField_5 rfl (lv_at hl 0 rfl) ?_
    refine lv_lconst (v := 0) hx hb dX5_getField_6 (by decide) ?_
    refine W.lcmp hx hb dX5_getField_7 ?_
    refine lv_topi (fun x18 e19 => ?_)
    refine lv_if_ne (tgt := 19) hx hb dX5_getField_8 (by decide) (fun c20 => ?_) (fun c20 => (rfV_n0 (p := p9) ((lg_cmp_eq _ _).mp (e19.symm.trans c20))).elim)
    refine lv_aload_n hx hb dX5_getField_19 rfl (lv_at hl 1 rfl) ?_
    refine lv_aload_n hx hb dX5_getField_20 rfl (lv_at hl 1 rfl) ?_
    refine c_get (v := .ref (a 28)) (C := RX5) (Tc := TX5) (N := 19) (ci := 4) hx hb hq pin_wsX50 hown hE hP hO 28 (sg_28 G h0 a _ _ _ _ _) rfl 1 (by decide) (hq _ pw_473) (fun _ h9 => h9) rfl dX5_getField_21 ?_
    refine lv_lload_n hx hb dX5_getField_24 rfl (lv_at hl 0 rfl) ?_
    refine lv_iload_n hx hb dX5_getField_25 rfl (lv_at hl 2 rfl) ?_
    have hO : OKW G h0 a (upd (upd (upd (upd (upd (upd (upd F 18 (nI ba)) 19 (nI (tp - 1))) 20 (nI pc)) 21 (nI (pc + 1))) 23 5) 26 (nI ht)) 26 (nI ht)) (updR (updR (updR (updR (updR R 5 (.ref pq)) 7 (.ref (a sp))) 8 (.ref (a op))) 7 (.ref (a sp))) 8 (.ref (a op))) Z B J K.1 (fun q99 x99 => x99 = rep G a K q99) w := hO.to rfl
    obtain ⟨_, qr24, hqr25⟩ := hO.2.1 29 _ (sg_29 G h0 a _ _ _ _ _)
    refine pc_V0 (G := G) (As := [.long (rfV p9), .int (nI k9)]) (rest := [.ref (a 5)]) hx hb hml hown hq hE hX pX0_al hP hD hS hA hl.1 (Y_get l G h0 a (upd (upd (upd (upd (upd (upd F 18 (nI ba)) 19 (nI (tp - 1))) 20 (nI pc)) 21 (nI (pc + 1))) 23 5) 26 (nI ht)) (updR (updR (updR R 5 (.ref pq)) 7 (.ref (a sp))) 8 (.ref (a op))) Z B J K.1 (fun q99 x99 => x99 = rep G a K q99) w p9 n9 d9 sp op ht 1 k9 (J sp (p9 + 1 + k9)) hsp (by omega) (by omega) hh59 (by omega) (by omega) (by omega) rfl hO) (gV pw_494 pw_495 pw_496 pw_440 pw_452) hV_X3_get qr24 3 hqr25 rfl rfl rfl (Nat.le_of_ble_eq_true rfl) dX5_getField_26 ⟨Nat.le_of_ble_eq_true rfl, Nat.le_of_ble_eq_true rfl⟩ ⟨Nat.le_of_ble_eq_true rfl, Nat.le_of_ble_eq_true rfl⟩ (fun v23 u21 H locs hw22 hP hD hS => ?_)
    obtain ⟨w, _⟩ := u21
    obtain ⟨hw22, hO⟩ := hw22
    obtain rfl : v23 = some (.long (J sp (p9 + 1 + k9))) := hw22
    have hO : OKP G h0 a (upd (upd (upd (upd (upd (upd F 18 (nI ba)) 19 (nI (tp - 1))) 20 (nI pc)) 21 (nI (pc + 1))) 23 5) 26 (nI ht)) (updR (updR (updR R 5 (.ref pq)) 7 (.ref (a sp))) 8 (.ref (a op))) Z B J K w := hO.to rfl
    refine W.widen (k := 0) (n := 0) (Nat.le_of_ble_eq_true rfl) (Nat.le_of_ble_eq_true rfl) ?_
    refine W.eq (g2 := F0 m 29 ls [.long (J sp (p9 + 1 + k9)), .ref (a 5)]) rfl ?_
    have hO : OKW G h0 a (upd (upd (upd (upd (upd (upd (upd F 18 (nI ba)) 19 (nI (tp - 1))) 20 (nI pc)) 21 (nI (pc + 1))) 23 5) 26 (nI ht)) 19 (nI (tp - 1))) (updR (updR (updR R 5 (.ref pq)) 7 (.ref (a sp))) 8 (.ref (a op))) Z B J K.1 (fun q99 x99 => x99 = rep G a K q99) w := hO.to rfl
    obtain ⟨_, qr29, hqr30⟩ := hO.2.1 28 _ (sg_28 G h0 a _ _ _ _ _)
    refine pc_V0 (G := G) (As := [.long (J sp (p9 + 1 + k9))]) (rest := []) hx hb hml hown hq hE hX pX0_al hP hD hS hA hl.1 (Y_push l G h0 a (upd (upd (upd (upd (upd (upd F 18 (nI ba)) 19 (nI (tp - 1))) 20 (nI pc)) 21 (nI (pc + 1))) 23 5) 26 (nI ht)) (updR (updR (updR R 5 (.ref pq)) 7 (.ref (a sp))) 8 (.ref (a op))) Z B J K.1 (fun q99 x99 => x99 = rep G a K q99) w (J sp (p9 + 1 + k9)) (tp - 1) (by omega) hO) (gV pw_549 pw_550 pw_551 pw_539 pw_535) hV_X5_push qr29 4 hqr30 rfl rfl rfl (Nat.le_of_ble_eq_true rfl) dX5_getField_29 ⟨Nat.le_of_ble_eq_true rfl, Nat.le_of_ble_eq_true rfl⟩ ⟨Nat.le_of_ble_eq_true rfl, Nat.le_of_ble_eq_true rfl⟩ (fun v28 u26 H locs hw27 hP hD hS => ?_)
    obtain ⟨w, _⟩ := u26
    obtain ⟨hw27, hO⟩ := hw27
    obtain rfl : v28 = none := hw27
    have hO : OKP G h0 a (upd (upd (upd (upd (upd (upd F 18 (nI ba)) 19 (nI ((tp - 1) + 1))) 20 (nI pc)) 21 (nI (pc + 1))) 23 5) 26 (nI ht)) (updR (updR (updR R 5 (.ref pq)) 7 (.ref (a sp))) 8 (.ref (a op))) Z B (updJ J 29 (vp_updL ((J 29)) (tp - 1) (J sp (p9 + 1 + k9)))) K w := hO.to rfl
    refine W.widen (k := 0) (n := 0) (Nat.le_of_ble_eq_true rfl) (Nat.le_of_ble_eq_true rfl) ?_
    refine W.eq (g2 := F0 m 32 ls []) rfl ?_
    have hou := OuQ.num (z := Z) hv4 hf4 rfl
    have hz31 : StQ y (B 19) Sh nn ((updJ J 29 (vp_updL ((J 29)) (tp - 1) (J sp (p9 + 1 + k9)))) sp) ht (B 30) (B 16) on j9 ba pc fl ((tp - 1) + 1) (5 : Int32) (nI (pc + 1)) Z ((updJ J 29 (vp_updL ((J 29)) (tp - 1) (J sp (p9 + 1 + k9)))) 29) fl := (StQ.spq (updJ_ne h29.1) (StQ.ou hmi hmo (by rw [hop]; decide) hou r5 (Nat.le_refl _) hZ))
    have hz32 : LoE (updJ J 29 (vp_updL ((J 29)) (tp - 1) (J sp (p9 + 1 + k9)))) sp op := (LoE.up hle h29.1 h29.2)
    have hz33 : (B 33) 5 = nI fl := hfl
    have hz34 : fl ≤ fl ∧ ((tp - 1) + 1) ≤ 32000 := (by omega)
    have hO : OKP G h0 a (upd (upd (upd (upd (upd (upd F 18 (nI ba)) 19 (nI ((tp - 1) + 1))) 20 (nI pc)) 21 (nI (pc + 1))) 23 (5 : Int32)) 26 (nI ht)) (updR (updR (updR R 5 (.ref pq)) 7 (.ref (a sp))) 8 (.ref (a op))) Z (updA (updA B 32 (B 32)) 33 (B 33)) (updJ J 29 (vp_updL ((J 29)) (tp - 1) (J sp (p9 + 1 + k9)))) K w := hO.to rfl
    exact W.vret hx hb hr (fun t99 ht99 hW99 => ⟨⟨_, (w, (((tp - 1) + 1), (5 : Int32), (nI (pc + 1)), Z, (updJ J 29 (vp_updL ((J 29)) (tp - 1) (J sp (p9 + 1 + k9)))), (B 33), (B 32), fl)), rfl, ⟨rfl, hz31, hz32, hz33, hz34, hO⟩, by rw [ht99]; exact hP, hD⟩, hS.F ht99⟩) hS.2.2 dX5_getField_32
set_option maxHeartbeats 20000000 in
set_option maxRecDepth 100000 in
theorem Y_putField (l : Launch) (G : pT) (h0 : Nat) (a : Nat → Nat) (F : Nat → Int32) (R : Nat → Value) (Z : Int64) (B : Nat → Nat → Int32) (J : Nat → Nat → Int64) (K : PK) (w : va_W) (y : TY) (Sh : Nat → Nat) (nn : Nat → Nat) (on : Nat) (j9 : Nat) (ba : Nat) (pc : Nat) (tp : Nat) (sp : Nat) (op : Nat) (ht : Nat) (fl : Nat) (pq : Nat) (dr : Nat) (ml : Nat) (nd : Nat) (nm : Nat) (cp : Nat) (it : Nat → Nat) (s9 : Nat) (g : Nat → Nat → Nat) (rk : Nat → Nat) (cs : Nat) (rg : Nat) (hsp : (sp = 34 ∧ op = 35) ∨ (sp = 35 ∧ op = 34)) (hmi : MIy y (B 19) Sh nn (J sp) ht (B 30) (J 29) on j9 ba pc tp) (hmo : MOy y (B 16) (B 17) (B 18) (B 19) j9) (hZ : Z = 0) (hfl : B 33 5 = nI fl) (hflb : fl ≤ 20000) (hop : B 16 pc = nI 18) (hru : IRy y (B 16) (B 17) (B 18) pc j9 18) (hwp : WPr G K g) (hps : PgT G K g (a 1) pq dr ml nd nm cp it s9) (hrk : RkO K rk) (hpy : PrY y K B dr nd nm it cs rg) (hle : LoE J sp op) (hO : OKP G h0 a (upd (upd (upd (upd (upd (upd F 18 (nI ba)) 19 (nI tp)) 20 (nI pc)) 21 (nI (pc + 1))) 23 5) 26 (nI ht)) (updR (updR (updR R 5 (.ref pq)) 7 (.ref (a sp))) 8 (.ref (a op))) Z B J K w) : PM l G pX0 yX5_putField cX5_putField 6 none ({ frames := 6, cells := 0, slots := 0, locals := 155 }) [.ref (a 5), .int (B 17 pc)] w (fun (v : Option Value) (u : va_W × (Nat × Int32 × Int32 × Int64 × (Nat → Nat → Int64) × (Nat → Int32) × (Nat → Int32) × Nat)) => v = none ∧ (StQ y (B 19) Sh nn (u.2.2.2.2.2.1 sp) ht (B 30) (B 16) on j9 ba pc fl u.2.1 u.2.2.1 u.2.2.2.1 u.2.2.2.2.1 (u.2.2.2.2.2.1 29) u.2.2.2.2.2.2.2.2) ∧ (LoE u.2.2.2.2.2.1 sp op) ∧ (u.2.2.2.2.2.2.1 5 = nI u.2.2.2.2.2.2.2.2) ∧ (u.2.2.2.2.2.2.2.2 ≤ fl ∧ u.2.1 ≤ 32000) ∧ (OKP G h0 a (upd (upd (upd (upd (upd (upd F 18 (nI ba)) 19 (nI u.2.1)) 20 (nI pc)) 21 u.2.2.2.1) 23 u.2.2.1) 26 (nI ht)) (updR (updR (updR R 5 (.ref pq)) 7 (.ref (a sp))) 8 (.ref (a op))) u.2.2.2.2.1 (updA (updA B 32 u.2.2.2.2.2.2.2.1) 33 u.2.2.2.2.2.2.1) u.2.2.2.2.2.1 K u.1)) (fun u => u.1) := by
  intro sz
  refine Met.ofW (cc := cX5_putField) (maxL := 6) (ret := none) (by decide) rfl ?_
  intro p e s m args below meth c s₁ B9 hml hv
  obtain ⟨rfl, hsz, hP, hD0, hE, hX⟩ := hv
  have hx := B9.exec
  have hb := B9.bytes
  have hr := B9.returns
  have hts := atoms_spec (ws := Cond.code yX5_putField cX5_putField 6 none :: pw) B9.pre
  have hq : ∀ w ∈ pw, w.before _ s = true := fun w h => hts w (List.mem_cons_of_mem _ h)
  have hown : s.vm.findClass RX5 = some m.cls := findClass_of_methodNamed B9.named
  have hlocks := B9.notSynchronized
  subst hsz
  have hD := hD0.self (sz := s.heap.size)
  have hA : ∀ q : Nat, s.heap.size ≤ q → va_A w s.heap.size q := fun q h => Or.inr h
  generalize va_A w s.heap.size = A at hD hE hA ⊢
  have hS : va_S A s.heap s.heap [] := va_S.rf
  have hl := lv_entry ([.ref (a 5), .int (B 17 pc)]) (n := 6) (Nat.le_of_ble_eq_true rfl)
  rw [lg_entry_eq]
  generalize (lg_sl ([.ref (a 5), .int (B 17 pc)]) ++ List.replicate (6 - (lg_sl ([.ref (a 5), .int (B 17 pc)])).length) Slot.unset).toArray = ls at hl ⊢
  have hl : lv_has ls 6 [(0, .ref (a 5)), (1, .int (B 17 pc))] := hl
  obtain ⟨hn1, hn2, hn3, hn4, hn5, hn6, hn7, hn8, hn9, hn10, hn11, hn12⟩ := MIy.nums hmi hmo
  have hlo := FFy.lo hmi.ff
  have hpg := hps.1
  have hp1 := hpg.1
  have hp2 := hpg.2.1
  have hp3 := hpg.2.2.1
  have hp4 := hpg.2.2.2.1
  have hp5 := hpg.2.2.2.2.1
  have hp6 := hpg.2.2.2.2.2.1
  have hp8 := hpg.2.2.2.2.2.2.2.1
  have hp9 := hpg.2.2.2.2.2.2.2.2
  have h29 : ¬ sp = 29 ∧ ¬ op = 29 := by omega
  have hht := hmi.1.2.2.2
  obtain ⟨t9, c9, k9, os, r1, r2, r3, r4, r5, r6⟩ := hru
  obtain ⟨hv1, hv2, hv3, hv4⟩ := FFy.pop hmi.ff r2
  obtain ⟨hu1, hu2, hu3, hu4⟩ := FFy.pop hv4 (show (wos (c9 :: os) (yA y j9 pc)).2.2.2 = c9 :: os from rfl)
  rw [r1] at hl
  refine lv_aload_n hx hb dX5_putField_0 rfl (lv_at hl 0 rfl) ?_
  have hO : OKW G h0 a (upd (upd (upd (upd (upd (upd (upd F 18 (nI ba)) 19 (nI tp)) 20 (nI pc)) 21 (nI (pc + 1))) 23 5) 26 (nI ht)) 19 (nI tp)) (updR (updR (updR R 5 (.ref pq)) 7 (.ref (a sp))) 8 (.ref (a op))) Z B J K.1 (fun q99 x99 => x99 = rep G a K q99) w := hO.to rfl
  obtain ⟨_, qr4, hqr5⟩ := hO.2.1 28 _ (sg_28 G h0 a _ _ _ _ _)
  refine pc_V0 (G := G) (As := []) (rest := []) hx hb hml hown hq hE hX pX0_al hP hD hS hA hl.1 (Y_pop l G h0 a (upd (upd (upd (upd (upd (upd F 18 (nI ba)) 19 (nI tp)) 20 (nI pc)) 21 (nI (pc + 1))) 23 5) 26 (nI ht)) (updR (updR (updR R 5 (.ref pq)) 7 (.ref (a sp))) 8 (.ref (a op))) Z B J K.1 (fun q99 x99 => x99 = rep G a K q99) w tp (by omega) hO) (gV pw_598 pw_599 pw_600 pw_539 pw_595) hV_X5_pop qr4 4 hqr5 rfl rfl rfl (Nat.le_of_ble_eq_true rfl) dX5_putField_1 ⟨Nat.le_of_ble_eq_true rfl, Nat.le_of_ble_eq_true rfl⟩ ⟨Nat.le_of_ble_eq_true rfl, Nat.le_of_ble_eq_true rfl⟩ (fun v3 u1 H locs hw2 hP hD hS => ?_)
  obtain ⟨w, _⟩ := u1
  obtain ⟨hw2, hO⟩ := hw2
  obtain rfl : v3 = some (.long ((J 29) (tp - 1))) := hw2
  have hO : OKP G h0 a (upd (upd (upd (upd (upd (upd F 18 (nI ba)) 19 (nI (tp - 1))) 20 (nI pc)) 21 (nI (pc + 1))) 23 5) 26 (nI ht)) (updR (updR (updR R 5 (.ref pq)) 7 (.ref (a sp))) 8 (.ref (a op))) Z B J K w := hO.to rfl
  refine W.widen (k := 0) (n := 0) (Nat.le_of_ble_eq_true rfl) (Nat.le_of_ble_eq_true rfl) ?_
  refine W.eq (g2 := F0 m 4 ls [.long ((J 29) (tp - 1))]) rfl ?_
  refine lv_lstore_n (lv' := [(2, .long ((J 29) (tp - 1))), (0, .ref (a 5)), (1, .int (nI k9))]) hx hb dX5_putField_4 rfl hl (by decide) rfl (fun ls hl => ?_)
  refine lv_aload_n hx hb dX5_putField_5 rfl (lv_at hl 1 rfl) ?_
  have hO : OKW G h0 a (upd (upd (upd (upd (upd (upd (upd F 18 (nI ba)) 19 (nI (tp - 1))) 20 (nI pc)) 21 (nI (pc + 1))) 23 5) 26 (nI ht)) 19 (nI (tp - 1))) (updR (updR (updR R 5 (.ref pq)) 7 (.ref (a sp))) 8 (.ref (a op))) Z B J K.1 (fun q99 x99 => x99 = rep G a K q99) w := hO.to rfl
  obtain ⟨_, qr9, hqr10⟩ := hO.2.1 28 _ (sg_28 G h0 a _ _ _ _ _)
  refine pc_V0 (G := G) (As := []) (rest := []) hx hb hml hown hq hE hX pX0_al hP hD hS hA hl.1 (Y_pop l G h0 a (upd (upd (upd (upd (upd (upd F 18 (nI ba)) 19 (nI (tp - 1))) 20 (nI pc)) 21 (nI (pc + 1))) 23 5) 26 (nI ht)) (updR (updR (updR R 5 (.ref pq)) 7 (.ref (a sp))) 8 (.ref (a op))) Z B J K.1 (fun q99 x99 => x99 = rep G a K q99) w (tp - 1) (by omega) hO) (gV pw_598 pw_599 pw_600 pw_539 pw_595) hV_X5_pop qr9 4 hqr10 rfl rfl rfl (Nat.le_of_ble_eq_true rfl) dX5_putField_6 ⟨Nat.le_of_ble_eq_true rfl, Nat.le_of_ble_eq_true rfl⟩ ⟨Nat.le_of_ble_eq_true rfl, Nat.le_of_ble_eq_true rfl⟩ (fun v8 u6 H locs hw7 hP hD hS => ?_)
  obtain ⟨w, _⟩ := u6
  obtain ⟨hw7, hO⟩ := hw7
  obtain rfl : v8 = some (.long ((J 29) ((tp - 1) - 1))) := hw7
  have hO : OKP G h0 a (upd (upd (upd (upd (upd (upd F 18 (nI ba)) 19 (nI ((tp - 1) - 1))) 20 (nI pc)) 21 (nI (pc + 1))) 23 5) 26 (nI ht)) (updR (updR (updR R 5 (.ref pq)) 7 (.ref (a sp))) 8 (.ref (a op))) Z B J K w := hO.to rfl
  refine W.widen (k := 0) (n := 0) (Nat.le_of_ble_eq_true rfl) (Nat.le_of_ble_eq_true rfl) ?_
  refine W.eq (g2 := F0 m 9 ls [.long ((J 29) ((tp - 1) - 1))]) rfl ?_
  rcases VT.rf hu3 (Or.inl r3) with hq9 | ⟨p9, d9, hp9, hq9, hS9, hf9⟩
  · skip
    rw [show ((J 29) ((tp - 1) - 1)) = 0 from hq9]
    refine lv_lstore (lv' := [(4, .long 0), (2, .long ((J 29) (tp - 1))), (0, .ref (a 5)), (1, .int (nI k9))]) hx hb dX5_putField_9 hl (by decide) rfl (fun ls hl => ?_)
    refine lv_lload hx hb dX5_putField_11 (lv_at hl 0 rfl) ?_
    refine lv_lconst (v := 0) hx hb dX5_putField_13 (by decide) ?_
    refine W.lcmp hx hb dX5_putField_14 ?_
    refine lv_topi (fun x11 e12 => ?_)
    obtain rfl : x11 = 0 := e12.trans (by decide)
    refine lv_if_ne (tgt := 26) hx hb dX5_putField_15 (by decide) (fun c13 => absurd c13 (by decide)) (fun c13 => ?_)
    refine lv_aload_n hx hb dX5_putField_18 rfl (lv_at hl 2 rfl) ?_
    refine lv_iconst (v := 1) hx hb dX5_putField_19 (by decide) ?_
    have hO : OKW G h0 a (upd (upd (upd (upd (upd (upd F 18 (nI ba)) 19 (nI ((tp - 1) - 1))) 20 (nI pc)) 21 (nI (pc + 1))) 23 5) 26 (nI ht)) (updR (updR (updR R 5 (.ref pq)) 7 (.ref (a sp))) 8 (.ref (a op))) Z B J K.1 (fun q99 x99 => x99 = rep G a K q99) w := hO.to rfl
    obtain ⟨_, qr17, hqr18⟩ := hO.2.1 28 _ (sg_28 G h0 a _ _ _ _ _)
    refine pc_V0 (G := G) (As := [.int (nI 1)]) (rest := []) hx hb hml hown hq hE hX pX0_al hP hD hS hA hl.1 (Y_raise l G h0 a (upd (upd (upd (upd (upd (upd F 18 (nI ba)) 19 (nI ((tp - 1) - 1))) 20 (nI pc)) 21 (nI (pc + 1))) 23 5) 26 (nI ht)) (updR (updR (updR R 5 (.ref pq)) 7 (.ref (a sp))) 8 (.ref (a op))) Z B J K.1 (fun q99 x99 => x99 = rep G a K q99) w 1 (by omega) hO) (gV pw_570 pw_571 pw_572 pw_539 pw_561) hV_X5_raise qr17 4 hqr18 rfl rfl rfl (Nat.le_of_ble_eq_true rfl) dX5_putField_20 ⟨Nat.le_of_ble_eq_true rfl, Nat.le_of_ble_eq_true rfl⟩ ⟨Nat.le_of_ble_eq_true rfl, Nat.le_of_ble_eq_true rfl⟩ (fun v16 u14 H locs hw15 hP hD hS => ?_)
    obtain ⟨w, _⟩ := u14
    obtain ⟨hw15, hO⟩ := hw15
    obtain rfl : v16 = none := hw15
    have hO : OKP G h0 a (upd (upd (upd (upd (upd (upd F 18 (nI ba)) 19 (nI ((tp - 1) - 1))) 20 (nI pc)) 21 (nI (pc + 1))) 23 5) 26 (nI ht)) (updR (updR (updR R 5 (.ref pq)) 7 (.ref (a sp))) 8 (.ref (a op))) (rfV 1) B J K w := hO.to rfl
    refine W.widen (k := 0) (n := 0) (Nat.le_of_ble_eq_true rfl) (Nat.le_of_ble_eq_true rfl) ?_
    refine W.eq (g2 := F0 m 23 ls []) rfl ?_
    refine lv_goto (tgt := 37) hx hb dX5_putField_23 (by decide) ?_
    have hz19 : StQ y (B 19) Sh nn (J sp) ht (B 30) (B 16) on j9 ba pc fl ((tp - 1) - 1) (5 : Int32) (nI (pc + 1)) (rfV 1) (J 29) fl := (StQ.thrown hmi hmo (by rw [hop]; decide) (RaO.own hmi.2.1 (by omega) (by omega)) (fun _ _ => rfl) (Nat.le_refl _))
    have hz20 : LoE J sp op := hle
    have hz21 : (B 33) 5 = nI fl := hfl
    have hz22 : fl ≤ fl ∧ ((tp - 1) - 1) ≤ 32000 := (by omega)
    have hO : OKP G h0 a (upd (upd (upd (upd (upd (upd F 18 (nI ba)) 19 (nI ((tp - 1) - 1))) 20 (nI pc)) 21 (nI (pc + 1))) 23 (5 : Int32)) 26 (nI ht)) (updR (updR (updR R 5 (.ref pq)) 7 (.ref (a sp))) 8 (.ref (a op))) (rfV 1) (updA (updA B 32 (B 32)) 33 (B 33)) J K w := hO.to rfl
    exact W.vret hx hb hr (fun t99 ht99 hW99 => ⟨⟨_, (w, (((tp - 1) - 1), (5 : Int32), (nI (pc + 1)), (rfV 1), J, (B 33), (B 32), fl)), rfl, ⟨rfl, hz19, hz20, hz21, hz22, hO⟩, by rw [ht99]; exact hP, hD⟩, hS.F ht99⟩) hS.2.2 dX5_putField_37
  · skip
    rw [show ((J 29) ((tp - 1) - 1)) = rfV p9 from hq9]
    obtain ⟨n9, hh19, hh29, hh39, hh49, hh59, hh69, hh79⟩ := HT.hd hht hS9
    obtain ⟨hd6, hkd, hft⟩ := hpy.2.2.2.2.2.1 d9 c9 k9 hf9 r3 r4
    obtain ⟨hf1, hf2, hf3, hf4⟩ := HT.fld hht hpy hS9 hd6 hkd
    have hf5 := (hh69 hf1).1
    rw [hft] at hf4
    refine lv_lstore (lv' := [(4, .long (rfV p9)), (2, .long ((J 29) (tp - 1))), (0, .ref (a 5)), (1, .int (nI k9))]) hx hb dX5_putField_9 hl (by decide) rfl (fun ls hl => ?_)
    refine lv_lload hx hb dX5_putField_11 (lv_at hl 0 rfl) ?_
    refine lv_lconst (v := 0) hx hb dX5_putField_13 (by decide) ?_
    refine W.lcmp hx hb dX5_putField_14 ?_
    refine lv_topi (fun x23 e24 => ?_)
    refine lv_if_ne (tgt := 26) hx hb dX5_putField_15 (by decide) (fun c25 => ?_) (fun c25 => (rfV_n0 (p := p9) ((lg_cmp_eq _ _).mp (e24.symm.trans c25))).elim)
    refine lv_aload_n hx hb dX5_putField_26 rfl (lv_at hl 2 rfl) ?_
    refine c_get (v := .ref (a 28)) (C := RX5) (Tc := TX5) (N := 19) (ci := 4) hx hb hq pin_wsX50 hown hE hP hO 28 (sg_28 G h0 a _ _ _ _ _) rfl 1 (by decide) (hq _ pw_473) (fun _ h9 => h9) rfl dX5_putField_27 ?_
    refine lv_lload hx hb dX5_putField_30 (lv_at hl 0 rfl) ?_
    refine lv_iload_n hx hb dX5_putField_32 rfl (lv_at hl 3 rfl) ?_
    refine lv_lload_n hx hb dX5_putField_33 rfl (lv_at hl 1 rfl) ?_
    have hO : OKW G h0 a (upd (upd (upd (upd (upd (upd (upd F 18 (nI ba)) 19 (nI ((tp - 1) - 1))) 20 (nI pc)) 21 (nI (pc + 1))) 23 5) 26 (nI ht)) 26 (nI ht)) (updR (updR (updR (updR (updR R 5 (.ref pq)) 7 (.ref (a sp))) 8 (.ref (a op))) 7 (.ref (a sp))) 8 (.ref (a op))) Z B J K.1 (fun q99 x99 => x99 = rep G a K q99) w := hO.to rfl
    obtain ⟨_, qr29, hqr30⟩ := hO.2.1 29 _ (sg_29 G h0 a _ _ _ _ _)
    refine pc_V0 (G := G) (As := [.long (rfV p9), .int (nI k9), .long ((J 29) (tp - 1))]) (rest := []) hx hb hml hown hq hE hX pX0_al hP hD hS hA hl.1 (Y_put l G h0 a (upd (upd (upd (upd (upd (upd F 18 (nI ba)) 19 (nI ((tp - 1) - 1))) 20 (nI pc)) 21 (nI (pc + 1))) 23 5) 26 (nI ht)) (updR (updR (updR R 5 (.ref pq)) 7 (.ref (a sp))) 8 (.ref (a op))) Z B J K.1 (fun q99 x99 => x99 = rep G a K q99) w p9 n9 d9 sp op ht 1 k9 ((J 29) (tp - 1)) hsp (by omega) (by omega) hh59 (by omega) (by omega) (by omega) hO) (gV pw_649 pw_650 pw_651 pw_440 pw_456) hV_X3_put qr29 3 hqr30 rfl rfl rfl (Nat.le_of_ble_eq_true rfl) dX5_putField_34 ⟨Nat.le_of_ble_eq_true rfl, Nat.le_of_ble_eq_true rfl⟩ ⟨Nat.le_of_ble_eq_true rfl, Nat.le_of_ble_eq_true rfl⟩ (fun v28 u26 H locs hw27 hP hD hS => ?_)
    obtain ⟨w, J31⟩ := u26
    obtain ⟨hw27, h32, h33, h34, hO⟩ := hw27
    have h32 : J31 sp = upV (J sp) (p9 + 1 + k9) ((J 29) (tp - 1)) := h32
    have h33 : J31 29 = (J 29) := h33
    have h34 : J31 op = J op := h34
    obtain rfl : v28 = none := hw27
    have hO : OKP G h0 a (upd (upd (upd (upd (upd (upd F 18 (nI ba)) 19 (nI ((tp - 1) - 1))) 20 (nI pc)) 21 (nI (pc + 1))) 23 5) 26 (nI ht)) (updR (updR (updR R 5 (.ref pq)) 7 (.ref (a sp))) 8 (.ref (a op))) Z B J31 K w := hO.to rfl
    refine W.widen (k := 0) (n := 0) (Nat.le_of_ble_eq_true rfl) (Nat.le_of_ble_eq_true rfl) ?_
    refine W.eq (g2 := F0 m 37 ls []) rfl ?_
    have hz35 : StQ y (B 19) Sh nn (J31 sp) ht (B 30) (B 16) on j9 ba pc fl ((tp - 1) - 1) (5 : Int32) (nI (pc + 1)) Z (J31 29) fl := (by rw [h32, h33]; exact (StQ.on1 (MIy.heap hmi (HT.put hht hS9 hf1 (Or.inl ⟨hd6, hkd, rfl, by rw [hft]; exact r5 _ _ hv3⟩))) hmo (by rw [hop]; decide) hu4 r6 (fun _ _ => rfl) (Nat.le_refl _) hZ))
    have hz36 : LoE J31 sp op := (LoE.put hle h32 h34 (by omega))
    have hz37 : (B 33) 5 = nI fl := hfl
    have hz38 : fl ≤ fl ∧ ((tp - 1) - 1) ≤ 32000 := (by omega)
    have hO : OKP G h0 a (upd (upd (upd (upd (upd (upd F 18 (nI ba)) 19 (nI ((tp - 1) - 1))) 20 (nI pc)) 21 (nI (pc + 1))) 23 (5 : Int32)) 26 (nI ht)) (updR (updR (updR R 5 (.ref pq)) 7 (.ref (a sp))) 8 (.ref (a op))) Z (updA (updA B 32 (B 32)) 33 (B 33)) J31 K w := hO.to rfl
    exact W.vret hx hb hr (fun t99 ht99 hW99 => ⟨⟨_, (w, (((tp - 1) - 1), (5 : Int32), (nI (pc + 1)), Z, J31, (B 33), (B 32), fl)), rfl, ⟨rfl, hz35, hz36, hz37, hz38, hO⟩, by rw [ht99]; exact hP, hD⟩, hS.F ht99⟩) hS.2.2 dX5_putField_37
set_option maxHeartbeats 2000000 in
set_option maxRecDepth 100000 in
theorem Y_hasElemN (l : Launch) (G : pT) (h0 : Nat) (a : Nat → Nat) (F : Nat → Int32) (R : Nat → Value) (Z : Int64) (B : Nat → Nat → Int32) (J : Nat → Nat → Int64) (T : Nat → Nat) (Pi : Nat → va_E → Prop) (w : va_W) (x : Int32) (hO : OKW G h0 a F R Z B J T Pi w) : PM l G pX0 yX5_hasElement cX5_hasElement 4 (some .boolean) ({ frames := 3, cells := 0, slots := 0, locals := 81 }) [.ref (a 5), .long 0, .int x] w (fun (v : Option Value) (u : va_W × (Unit)) => v = some (.int 0) ∧ (OKW G h0 a F R (rfV 1) B J T Pi u.1)) (fun u => u.1) := by
  intro sz
  refine Met.ofW (cc := cX5_hasElement) (maxL := 4) (ret := (some .boolean)) (by decide) rfl ?_
  intro p e s m args below meth c s₁ B9 hml hv
  obtain ⟨rfl, hsz, hP, hD0, hE, hX⟩ := hv
  have hx := B9.exec
  have hb := B9.bytes
  have hr := B9.returns
  have hts := atoms_spec (ws := Cond.code yX5_hasElement cX5_hasElement 4 (some .boolean) :: pw) B9.pre
  have hq : ∀ w ∈ pw, w.before _ s = true := fun w h => hts w (List.mem_cons_of_mem _ h)
  have hown : s.vm.findClass RX5 = some m.cls := findClass_of_methodNamed B9.named
  have hlocks := B9.notSynchronized
  subst hsz
  have hD := hD0.self (sz := s.heap.size)
  have hA : ∀ q : Nat, s.heap.size ≤ q → va_A w s.heap.size q := fun q h => Or.inr h
  generalize va_A w s.heap.size = A at hD hE hA ⊢
  have hS : va_S A s.heap s.heap [] := va_S.rf
  have hl := lv_entry ([.ref (a 5), .long 0, .int x]) (n := 4) (Nat.le_of_ble_eq_true rfl)
  rw [lg_entry_eq]
  generalize (lg_sl ([.ref (a 5), .long 0, .int x]) ++ List.replicate (4 - (lg_sl ([.ref (a 5), .long 0, .int x])).length) Slot.unset).toArray = ls at hl ⊢
  have hl : lv_has ls 4 [(0, .ref (a 5)), (1, .long 0), (3, .int x)] := hl
  refine lv_lload_n hx hb dX5_hasElement_0 rfl (lv_at hl 1 rfl) ?_
  refine lv_lconst (v := 0) hx hb dX5_hasElement_1 (by decide) ?_
  refine W.lcmp hx hb dX5_hasElement_2 ?_
  refine lv_topi (fun x1 e2 => ?_)
  obtain rfl : x1 = 0 := e2.trans (by decide)
  refine lv_if_ne (tgt := 13) hx hb dX5_hasElement_3 (by decide) (fun c3 => absurd c3 (by decide)) (fun c3 => ?_)
  refine lv_aload_n hx hb dX5_hasElement_6 rfl (lv_at hl 0 rfl) ?_
  refine lv_iconst (v := 1) hx hb dX5_hasElement_7 (by decide) ?_
  have hO : OKW G h0 a F R Z B J T Pi w := hO.to rfl
  obtain ⟨_, qr7, hqr8⟩ := hO.2.1 28 _ (sg_28 G h0 a _ _ _ _ _)
  refine pc_V0 (G := G) (As := [.int (nI 1)]) (rest := []) hx hb hml hown hq hE hX pX0_al hP hD hS hA hl.1 (Y_raise l G h0 a F R Z B J T Pi w 1 (by omega) hO) (gV pw_570 pw_571 pw_572 pw_539 pw_561) hV_X5_raise qr7 4 hqr8 rfl rfl rfl (Nat.le_of_ble_eq_true rfl) dX5_hasElement_8 ⟨Nat.le_of_ble_eq_true rfl, Nat.le_of_ble_eq_true rfl⟩ ⟨Nat.le_of_ble_eq_true rfl, Nat.le_of_ble_eq_true rfl⟩ (fun v6 u4 H locs hw5 hP hD hS => ?_)
  obtain ⟨w, _⟩ := u4
  obtain ⟨hw5, hO⟩ := hw5
  obtain rfl : v6 = none := hw5
  have hO : OKW G h0 a F R (rfV 1) B J T Pi w := hO.to rfl
  refine W.widen (k := 0) (n := 0) (Nat.le_of_ble_eq_true rfl) (Nat.le_of_ble_eq_true rfl) ?_
  refine W.eq (g2 := F0 m 11 ls []) rfl ?_
  refine lv_iconst (v := 0) hx hb dX5_hasElement_11 (by decide) ?_
  have hO : OKW G h0 a F R (rfV 1) B J T Pi w := hO.to rfl
  exact W.zret (v := 0) hx hb hr rfl (fun t99 ht99 hW99 => ⟨⟨_, (w, ()), rfl, ⟨rfl, hO⟩, by rw [ht99]; exact hP, hD⟩, hS.F ht99⟩) hS.2.2 dX5_hasElement_12
set_option maxHeartbeats 2000000 in
set_option maxRecDepth 100000 in
theorem Y_hasElem (l : Launch) (G : pT) (h0 : Nat) (a : Nat → Nat) (F : Nat → Int32) (R : Nat → Value) (Z : Int64) (B : Nat → Nat → Int32) (J : Nat → Nat → Int64) (T : Nat → Nat) (Pi : Nat → va_E → Prop) (w : va_W) (p9 : Nat) (n9 : Nat) (d9 : Nat) (sp : Nat) (op : Nat) (ht : Nat) (x : Int32) (hsp : (sp = 34 ∧ op = 35) ∨ (sp = 35 ∧ op = 34)) (hht : 8 ≤ ht ∧ ht ≤ 3008) (hn9 : 1 ≤ n9 ∧ n9 ≤ 3008 ∧ d9 < 128 ∧ p9 < ht) (hv9 : J sp p9 = hdV n9 d9) (hd6 : 64 ≤ d9 ∧ 2 ≤ n9) (hO : OKW G h0 a (upd F 26 (nI ht)) (updR (updR R 7 (.ref (a sp))) 8 (.ref (a op))) Z B J T Pi w) : PM l G pX0 yX5_hasElement cX5_hasElement 4 (some .boolean) ({ frames := 5, cells := 0, slots := 0, locals := 129 }) [.ref (a 5), .long (rfV p9), .int x] w (fun (v : Option Value) (u : va_W × (Nat × Int64)) => v = some (.int (nI u.2.1)) ∧ (u.2.1 ≤ 1) ∧ (HeQ T x n9 u.2.1 Z u.2.2) ∧ (OKW G h0 a (upd F 26 (nI ht)) (updR (updR R 7 (.ref (a sp))) 8 (.ref (a op))) u.2.2 B J T Pi u.1)) (fun u => u.1) := by
  intro sz
  refine Met.ofW (cc := cX5_hasElement) (maxL := 4) (ret := (some .boolean)) (by decide) rfl ?_
  intro p e s m args below meth c s₁ B9 hml hv
  obtain ⟨rfl, hsz, hP, hD0, hE, hX⟩ := hv
  have hx := B9.exec
  have hb := B9.bytes
  have hr := B9.returns
  have hts := atoms_spec (ws := Cond.code yX5_hasElement cX5_hasElement 4 (some .boolean) :: pw) B9.pre
  have hq : ∀ w ∈ pw, w.before _ s = true := fun w h => hts w (List.mem_cons_of_mem _ h)
  have hown : s.vm.findClass RX5 = some m.cls := findClass_of_methodNamed B9.named
  have hlocks := B9.notSynchronized
  subst hsz
  have hD := hD0.self (sz := s.heap.size)
  have hA : ∀ q : Nat, s.heap.size ≤ q → va_A w s.heap.size q := fun q h => Or.inr h
  generalize va_A w s.heap.size = A at hD hE hA ⊢
  have hS : va_S A s.heap s.heap [] := va_S.rf
  have hl := lv_entry ([.ref (a 5), .long (rfV p9), .int x]) (n := 4) (Nat.le_of_ble_eq_true rfl)
  rw [lg_entry_eq]
  generalize (lg_sl ([.ref (a 5), .long (rfV p9), .int x]) ++ List.replicate (4 - (lg_sl ([.ref (a 5), .long (rfV p9), .int x])).length) Slot.unset).toArray = ls at hl ⊢
  have hl : lv_has ls 4 [(0, .ref (a 5)), (1, .long (rfV p9)), (3, .int x)] := hl
  refine lv_lload_n hx hb dX5_hasElement_0 rfl (lv_at hl 1 rfl) ?_
  refine lv_lconst (v := 0) hx hb dX5_hasElement_1 (by decide) ?_
  refine W.lcmp hx hb dX5_hasElement_2 ?_
  refine lv_topi (fun x1 e2 => ?_)
  refine lv_if_ne (tgt := 13) hx hb dX5_hasElement_3 (by decide) (fun c3 => ?_) (fun c3 => (rfV_n0 (p := p9) ((lg_cmp_eq _ _).mp (e2.symm.trans c3))).elim)
  refine lv_iload_n hx hb dX5_hasElement_13 rfl (lv_at hl 2 rfl) ?_
  refine lv_if_lt (tgt := 29) hx hb dX5_hasElement_14 (by decide) (fun c4 => ?_) (fun c4 => ?_)
  · refine lv_aload_n hx hb dX5_hasElement_29 rfl (lv_at hl 0 rfl) ?_
    refine lv_iconst (v := 4) hx hb dX5_hasElement_30 (by decide) ?_
    have hO : OKW G h0 a (upd F 26 (nI ht)) (updR (updR R 7 (.ref (a sp))) 8 (.ref (a op))) Z B J T Pi w := hO.to rfl
    obtain ⟨_, qr8, hqr9⟩ := hO.2.1 28 _ (sg_28 G h0 a _ _ _ _ _)
    refine pc_V0 (G := G) (As := [.int (nI 4)]) (rest := []) hx hb hml hown hq hE hX pX0_al hP hD hS hA hl.1 (Y_raise l G h0 a (upd F 26 (nI ht)) (updR (updR R 7 (.ref (a sp))) 8 (.ref (a op))) Z B J T Pi w 4 (by omega) hO) (gV pw_570 pw_571 pw_572 pw_539 pw_561) hV_X5_raise qr8 4 hqr9 rfl rfl rfl (Nat.le_of_ble_eq_true rfl) dX5_hasElement_31 ⟨Nat.le_of_ble_eq_true rfl, Nat.le_of_ble_eq_true rfl⟩ ⟨Nat.le_of_ble_eq_true rfl, Nat.le_of_ble_eq_true rfl⟩ (fun v7 u5 H locs hw6 hP hD hS => ?_)
    obtain ⟨w, _⟩ := u5
    obtain ⟨hw6, hO⟩ := hw6
    obtain rfl : v7 = none := hw6
    have hO : OKW G h0 a (upd F 26 (nI ht)) (updR (updR R 7 (.ref (a sp))) 8 (.ref (a op))) (rfV 4) B J T Pi w := hO.to rfl
    refine W.widen (k := 0) (n := 0) (Nat.le_of_ble_eq_true rfl) (Nat.le_of_ble_eq_true rfl) ?_
    refine W.eq (g2 := F0 m 34 ls []) rfl ?_
    refine lv_iconst (v := 0) hx hb dX5_hasElement_34 (by decide) ?_
    have hz10 : 0 ≤ 1 := (by omega)
    have hz11 : HeQ T x n9 0 Z (rfV 4) := (Or.inr ⟨rfl, rfl⟩)
    have hO : OKW G h0 a (upd F 26 (nI ht)) (updR (updR R 7 (.ref (a sp))) 8 (.ref (a op))) (rfV 4) B J T Pi w := hO.to rfl
    exact W.zret (v := 0) hx hb hr rfl (fun t99 ht99 hW99 => ⟨⟨_, (w, (0, (rfV 4))), rfl, ⟨rfl, hz10, hz11, hO⟩, by rw [ht99]; exact hP, hD⟩, hS.F ht99⟩) hS.2.2 dX5_hasElement_35
  · obtain ⟨i9, ht_i9, hb_i9⟩ := nI_nn2 ( c4)
    have cc12 := c4
    rw [ht_i9] at cc12
    have n13 : ¬ (i9 < 0) := fun h9 => cc12 ((nI_ltI (a := i9) (b := 0) (by omega) (by omega)).mpr h9)
    rw [ht_i9] at hl
    refine lv_iload_n hx hb dX5_hasElement_17 rfl (lv_at hl 2 rfl) ?_
    refine lv_aload_n hx hb dX5_hasElement_18 rfl (lv_at hl 0 rfl) ?_
    refine c_get (v := .ref (a 28)) (C := RX5) (Tc := TX5) (N := 19) (ci := 4) hx hb hq pin_wsX50 hown hE hP hO 28 (sg_28 G h0 a _ _ _ _ _) rfl 1 (by decide) (hq _ pw_473) (fun _ h9 => h9) rfl dX5_hasElement_19 ?_
    refine lv_lload_n hx hb dX5_hasElement_22 rfl (lv_at hl 1 rfl) ?_
    have hO : OKW G h0 a (upd (upd F 26 (nI ht)) 26 (nI ht)) (updR (updR (updR (updR R 7 (.ref (a sp))) 8 (.ref (a op))) 7 (.ref (a sp))) 8 (.ref (a op))) Z B J T Pi w := hO.to rfl
    obtain ⟨_, qr17, hqr18⟩ := hO.2.1 29 _ (sg_29 G h0 a _ _ _ _ _)
    refine pc_V0 (G := G) (As := [.long (rfV p9)]) (rest := [.int (nI i9)]) hx hb hml hown hq hE hX pX0_al hP hD hS hA hl.1 (Y_partsOf l G h0 a (upd F 26 (nI ht)) (updR (updR R 7 (.ref (a sp))) 8 (.ref (a op))) Z B J T Pi w p9 n9 d9 sp op ht 2 hsp (by omega) (by omega) hv9 (Or.inr ⟨rfl, hd6.1⟩) (by omega) hO) (gV pw_646 pw_454 pw_455 pw_440 pw_448) hV_X3_partsOf qr17 3 hqr18 rfl rfl rfl (Nat.le_of_ble_eq_true rfl) dX5_hasElement_23 ⟨Nat.le_of_ble_eq_true rfl, Nat.le_of_ble_eq_true rfl⟩ ⟨Nat.le_of_ble_eq_true rfl, Nat.le_of_ble_eq_true rfl⟩ (fun v16 u14 H locs hw15 hP hD hS => ?_)
    obtain ⟨w, _⟩ := u14
    obtain ⟨hw15, hO⟩ := hw15
    obtain rfl : v16 = some (.int (nI (n9 - 2))) := hw15
    have hO : OKW G h0 a (upd F 26 (nI ht)) (updR (updR R 7 (.ref (a sp))) 8 (.ref (a op))) Z B J T Pi w := hO.to rfl
    refine W.widen (k := 0) (n := 0) (Nat.le_of_ble_eq_true rfl) (Nat.le_of_ble_eq_true rfl) ?_
    refine W.eq (g2 := F0 m 26 ls [.int (nI (n9 - 2)), .int (nI i9)]) rfl ?_
    refine lv_icmp_lt (tgt := 36) hx hb dX5_hasElement_26 (by decide) (fun c19 => ?_) (fun c19 => ?_)
    · have n20 : i9 < (n9 - 2) := (nI_ltI (a := i9) (b := (n9 - 2)) (by omega) (by omega)).mp c19
      refine lv_iconst (v := 1) hx hb dX5_hasElement_36 (by decide) ?_
      have hz21 : 1 ≤ 1 := (by omega)
      have hz22 : HeQ T x n9 1 Z Z := (Or.inl ⟨rfl, rfl, i9, ht_i9, by omega⟩)
      have hO : OKW G h0 a (upd F 26 (nI ht)) (updR (updR R 7 (.ref (a sp))) 8 (.ref (a op))) Z B J T Pi w := hO.to rfl
      exact W.zret (v := 1) hx hb hr rfl (fun t99 ht99 hW99 => ⟨⟨_, (w, (1, Z)), rfl, ⟨rfl, hz21, hz22, hO⟩, by rw [ht99]; exact hP, hD⟩, hS.F ht99⟩) hS.2.2 dX5_hasElement_37
    · have n23 : ¬ (i9 < (n9 - 2)) := fun h9 => c19 ((nI_ltI (a := i9) (b := (n9 - 2)) (by omega) (by omega)).mpr h9)
      refine lv_aload_n hx hb dX5_hasElement_29 rfl (lv_at hl 0 rfl) ?_
      refine lv_iconst (v := 4) hx hb dX5_hasElement_30 (by decide) ?_
      have hO : OKW G h0 a (upd F 26 (nI ht)) (updR (updR R 7 (.ref (a sp))) 8 (.ref (a op))) Z B J T Pi w := hO.to rfl
      obtain ⟨_, qr27, hqr28⟩ := hO.2.1 28 _ (sg_28 G h0 a _ _ _ _ _)
      refine pc_V0 (G := G) (As := [.int (nI 4)]) (rest := []) hx hb hml hown hq hE hX pX0_al hP hD hS hA hl.1 (Y_raise l G h0 a (upd F 26 (nI ht)) (updR (updR R 7 (.ref (a sp))) 8 (.ref (a op))) Z B J T Pi w 4 (by omega) hO) (gV pw_570 pw_571 pw_572 pw_539 pw_561) hV_X5_raise qr27 4 hqr28 rfl rfl rfl (Nat.le_of_ble_eq_true rfl) dX5_hasElement_31 ⟨Nat.le_of_ble_eq_true rfl, Nat.le_of_ble_eq_true rfl⟩ ⟨Nat.le_of_ble_eq_true rfl, Nat.le_of_ble_eq_true rfl⟩ (fun v26 u24 H locs hw25 hP hD hS => ?_)
      obtain ⟨w, _⟩ := u24
      obtain ⟨hw25, hO⟩ := hw25
      obtain rfl : v26 = none := hw25
      have hO : OKW G h0 a (upd F 26 (nI ht)) (updR (updR R 7 (.ref (a sp))) 8 (.ref (a op))) (rfV 4) B J T Pi w := hO.to rfl
      refine W.widen (k := 0) (n := 0) (Nat.le_of_ble_eq_true rfl) (Nat.le_of_ble_eq_true rfl) ?_
      refine W.eq (g2 := F0 m 34 ls []) rfl ?_
      refine lv_iconst (v := 0) hx hb dX5_hasElement_34 (by decide) ?_
      have hz29 : 0 ≤ 1 := (by omega)
      have hz30 : HeQ T x n9 0 Z (rfV 4) := (Or.inr ⟨rfl, rfl⟩)
      have hO : OKW G h0 a (upd F 26 (nI ht)) (updR (updR R 7 (.ref (a sp))) 8 (.ref (a op))) (rfV 4) B J T Pi w := hO.to rfl
      exact W.zret (v := 0) hx hb hr rfl (fun t99 ht99 hW99 => ⟨⟨_, (w, (0, (rfV 4))), rfl, ⟨rfl, hz29, hz30, hO⟩, by rw [ht99]; exact hP, hD⟩, hS.F ht99⟩) hS.2.2 dX5_hasElement_35
set_option maxHeartbeats 20000000 in
set_option maxRecDepth 100000 in
theorem Y_getElement (l : Launch) (G : pT) (h0 : Nat) (a : Nat → Nat) (F : Nat → Int32) (R : Nat → Value) (Z : Int64) (B : Nat → Nat → Int32) (J : Nat → Nat → Int64) (K : PK) (w : va_W) (y : TY) (Sh : Nat → Nat) (nn : Nat → Nat) (on : Nat) (j9 : Nat) (ba : Nat) (pc : Nat) (tp : Nat) (sp : Nat) (op : Nat) (ht : Nat) (fl : Nat) (pq : Nat) (dr : Nat) (ml : Nat) (nd : Nat) (nm : Nat) (cp : Nat) (it : Nat → Nat) (s9 : Nat) (g : Nat → Nat → Nat) (rk : Nat → Nat) (cs : Nat) (rg : Nat) (hsp : (sp = 34 ∧ op = 35) ∨ (sp = 35 ∧ op = 34)) (hmi : MIy y (B 19) Sh nn (J sp) ht (B 30) (J 29) on j9 ba pc tp) (hmo : MOy y (B 16) (B 17) (B 18) (B 19) j9) (hZ : Z = 0) (hfl : B 33 5 = nI fl) (hflb : fl ≤ 20000) (hop : B 16 pc = nI 19) (hru : IRy y (B 16) (B 17) (B 18) pc j9 19) (hwp : WPr G K g) (hps : PgT G K g (a 1) pq dr ml nd nm cp it s9) (hrk : RkO K rk) (hpy : PrY y K B dr nd nm it cs rg) (hle : LoE J sp op) (hO : OKP G h0 a (upd (upd (upd (upd (upd (upd F 18 (nI ba)) 19 (nI tp)) 20 (nI pc)) 21 (nI (pc + 1))) 23 5) 26 (nI ht)) (updR (updR (updR R 5 (.ref pq)) 7 (.ref (a sp))) 8 (.ref (a op))) Z B J K w) : PM l G pX0 yX5_getElement cX5_getElement 4 none ({ frames := 6, cells := 0, slots := 0, locals := 153 }) [.ref (a 5)] w (fun (v : Option Value) (u : va_W × (Nat × Int32 × Int32 × Int64 × (Nat → Nat → Int64) × (Nat → Int32) × (Nat → Int32) × Nat)) => v = none ∧ (StQ y (B 19) Sh nn (u.2.2.2.2.2.1 sp) ht (B 30) (B 16) on j9 ba pc fl u.2.1 u.2.2.1 u.2.2.2.1 u.2.2.2.2.1 (u.2.2.2.2.2.1 29) u.2.2.2.2.2.2.2.2) ∧ (LoE u.2.2.2.2.2.1 sp op) ∧ (u.2.2.2.2.2.2.1 5 = nI u.2.2.2.2.2.2.2.2) ∧ (u.2.2.2.2.2.2.2.2 ≤ fl ∧ u.2.1 ≤ 32000) ∧ (OKP G h0 a (upd (upd (upd (upd (upd (upd F 18 (nI ba)) 19 (nI u.2.1)) 20 (nI pc)) 21 u.2.2.2.1) 23 u.2.2.1) 26 (nI ht)) (updR (updR (updR R 5 (.ref pq)) 7 (.ref (a sp))) 8 (.ref (a op))) u.2.2.2.2.1 (updA (updA B 32 u.2.2.2.2.2.2.2.1) 33 u.2.2.2.2.2.2.1) u.2.2.2.2.2.1 K u.1)) (fun u => u.1) := by
  intro sz
  refine Met.ofW (cc := cX5_getElement) (maxL := 4) (ret := none) (by decide) rfl ?_
  intro p e s m args below meth c s₁ B9 hml hv
  obtain ⟨rfl, hsz, hP, hD0, hE, hX⟩ := hv
  have hx := B9.exec
  have hb := B9.bytes
  have hr := B9.returns
  have hts := atoms_spec (ws := Cond.code yX5_getElement cX5_getElement 4 none :: pw) B9.pre
  have hq : ∀ w ∈ pw, w.before _ s = true := fun w h => hts w (List.mem_cons_of_mem _ h)
  have hown : s.vm.findClass RX5 = some m.cls := findClass_of_methodNamed B9.named
  have hlocks := B9.notSynchronized
  subst hsz
  have hD := hD0.self (sz := s.heap.size)
  have hA : ∀ q : Nat, s.heap.size ≤ q → va_A w s.heap.size q := fun q h => Or.inr h
  generalize va_A w s.heap.size = A at hD hE hA ⊢
  have hS : va_S A s.heap s.heap [] := va_S.rf
  have hl := lv_entry ([.ref (a 5)]) (n := 4) (Nat.le_of_ble_eq_true rfl)
  rw [lg_entry_eq]
  generalize (lg_sl ([.ref (a 5)]) ++ List.replicate (4 - (lg_sl ([.ref (a 5)])).length) Slot.unset).toArray = ls at hl ⊢
  have hl : lv_has ls 4 [(0, .ref (a 5))] := hl
  obtain ⟨hn1, hn2, hn3, hn4, hn5, hn6, hn7, hn8, hn9, hn10, hn11, hn12⟩ := MIy.nums hmi hmo
  have hlo := FFy.lo hmi.ff
  have hpg := hps.1
  have hp1 := hpg.1
  have hp2 := hpg.2.1
  have hp3 := hpg.2.2.1
  have hp4 := hpg.2.2.2.1
  have hp5 := hpg.2.2.2.2.1
  have hp6 := hpg.2.2.2.2.2.1
  have hp8 := hpg.2.2.2.2.2.2.2.1
  have hp9 := hpg.2.2.2.2.2.2.2.2
  have h29 : ¬ sp = 29 ∧ ¬ op = 29 := by omega
  have hht := hmi.1.2.2.2
  obtain ⟨t9, c9, os, r1, r2, r3, r4⟩ := hru
  obtain ⟨hv1, hv2, hv3, hv4⟩ := FFy.pop hmi.ff r1
  obtain ⟨hu1, hu2, hu3, hu4⟩ := FFy.pop hv4 (show (wos (c9 :: os) (yA y j9 pc)).2.2.2 = c9 :: os from rfl)
  refine lv_aload_n hx hb dX5_getElement_0 rfl (lv_at hl 0 rfl) ?_
  have hO : OKW G h0 a (upd (upd (upd (upd (upd (upd (upd F 18 (nI ba)) 19 (nI tp)) 20 (nI pc)) 21 (nI (pc + 1))) 23 5) 26 (nI ht)) 19 (nI tp)) (updR (updR (updR R 5 (.ref pq)) 7 (.ref (a sp))) 8 (.ref (a op))) Z B J K.1 (fun q99 x99 => x99 = rep G a K q99) w := hO.to rfl
  obtain ⟨_, qr4, hqr5⟩ := hO.2.1 28 _ (sg_28 G h0 a _ _ _ _ _)
  refine pc_V0 (G := G) (As := []) (rest := []) hx hb hml hown hq hE hX pX0_al hP hD hS hA hl.1 (Y_pop l G h0 a (upd (upd (upd (upd (upd (upd F 18 (nI ba)) 19 (nI tp)) 20 (nI pc)) 21 (nI (pc + 1))) 23 5) 26 (nI ht)) (updR (updR (updR R 5 (.ref pq)) 7 (.ref (a sp))) 8 (.ref (a op))) Z B J K.1 (fun q99 x99 => x99 = rep G a K q99) w tp (by omega) hO) (gV pw_598 pw_599 pw_600 pw_539 pw_595) hV_X5_pop qr4 4 hqr5 rfl rfl rfl (Nat.le_of_ble_eq_true rfl) dX5_getElement_1 ⟨Nat.le_of_ble_eq_true rfl, Nat.le_of_ble_eq_true rfl⟩ ⟨Nat.le_of_ble_eq_true rfl, Nat.le_of_ble_eq_true rfl⟩ (fun v3 u1 H locs hw2 hP hD hS => ?_)
  obtain ⟨w, _⟩ := u1
  obtain ⟨hw2, hO⟩ := hw2
  obtain rfl : v3 = some (.long ((J 29) (tp - 1))) := hw2
  have hO : OKP G h0 a (upd (upd (upd (upd (upd (upd F 18 (nI ba)) 19 (nI (tp - 1))) 20 (nI pc)) 21 (nI (pc + 1))) 23 5) 26 (nI ht)) (updR (updR (updR R 5 (.ref pq)) 7 (.ref (a sp))) 8 (.ref (a op))) Z B J K w := hO.to rfl
  refine W.widen (k := 0) (n := 0) (Nat.le_of_ble_eq_true rfl) (Nat.le_of_ble_eq_true rfl) ?_
  refine W.eq (g2 := F0 m 4 ls [.long ((J 29) (tp - 1))]) rfl ?_
  refine lv_l2i hx hb dX5_getElement_4 rfl ?_
  refine lv_topi (fun x6 e7 => ?_)
  refine lv_istore_n (lv' := [(1, .int x6), (0, .ref (a 5))]) hx hb dX5_getElement_5 rfl hl (by decide) rfl (fun ls hl => ?_)
  refine lv_aload_n hx hb dX5_getElement_6 rfl (lv_at hl 1 rfl) ?_
  have hO : OKW G h0 a (upd (upd (upd (upd (upd (upd (upd F 18 (nI ba)) 19 (nI (tp - 1))) 20 (nI pc)) 21 (nI (pc + 1))) 23 5) 26 (nI ht)) 19 (nI (tp - 1))) (updR (updR (updR R 5 (.ref pq)) 7 (.ref (a sp))) 8 (.ref (a op))) Z B J K.1 (fun q99 x99 => x99 = rep G a K q99) w := hO.to rfl
  obtain ⟨_, qr11, hqr12⟩ := hO.2.1 28 _ (sg_28 G h0 a _ _ _ _ _)
  refine pc_V0 (G := G) (As := []) (rest := []) hx hb hml hown hq hE hX pX0_al hP hD hS hA hl.1 (Y_pop l G h0 a (upd (upd (upd (upd (upd (upd F 18 (nI ba)) 19 (nI (tp - 1))) 20 (nI pc)) 21 (nI (pc + 1))) 23 5) 26 (nI ht)) (updR (updR (updR R 5 (.ref pq)) 7 (.ref (a sp))) 8 (.ref (a op))) Z B J K.1 (fun q99 x99 => x99 = rep G a K q99) w (tp - 1) (by omega) hO) (gV pw_598 pw_599 pw_600 pw_539 pw_595) hV_X5_pop qr11 4 hqr12 rfl rfl rfl (Nat.le_of_ble_eq_true rfl) dX5_getElement_7 ⟨Nat.le_of_ble_eq_true rfl, Nat.le_of_ble_eq_true rfl⟩ ⟨Nat.le_of_ble_eq_true rfl, Nat.le_of_ble_eq_true rfl⟩ (fun v10 u8 H locs hw9 hP hD hS => ?_)
  obtain ⟨w, _⟩ := u8
  obtain ⟨hw9, hO⟩ := hw9
  obtain rfl : v10 = some (.long ((J 29) ((tp - 1) - 1))) := hw9
  have hO : OKP G h0 a (upd (upd (upd (upd (upd (upd F 18 (nI ba)) 19 (nI ((tp - 1) - 1))) 20 (nI pc)) 21 (nI (pc + 1))) 23 5) 26 (nI ht)) (updR (updR (updR R 5 (.ref pq)) 7 (.ref (a sp))) 8 (.ref (a op))) Z B J K w := hO.to rfl
  refine W.widen (k := 0) (n := 0) (Nat.le_of_ble_eq_true rfl) (Nat.le_of_ble_eq_true rfl) ?_
  refine W.eq (g2 := F0 m 10 ls [.long ((J 29) ((tp - 1) - 1))]) rfl ?_
  rcases VT.rf hu3 (Or.inr (Or.inr ⟨r2, r3⟩)) with hq9 | ⟨p9, d9, hp9, hq9, hS9, hf9⟩
  · skip
    rw [show ((J 29) ((tp - 1) - 1)) = 0 from hq9]
    refine lv_lstore_n (lv' := [(2, .long 0), (1, .int x6), (0, .ref (a 5))]) hx hb dX5_getElement_10 rfl hl (by decide) rfl (fun ls hl => ?_)
    refine lv_aload_n hx hb dX5_getElement_11 rfl (lv_at hl 2 rfl) ?_
    refine lv_lload_n hx hb dX5_getElement_12 rfl (lv_at hl 0 rfl) ?_
    refine lv_iload_n hx hb dX5_getElement_13 rfl (lv_at hl 1 rfl) ?_
    have hO : OKW G h0 a (upd (upd (upd (upd (upd (upd F 18 (nI ba)) 19 (nI ((tp - 1) - 1))) 20 (nI pc)) 21 (nI (pc + 1))) 23 5) 26 (nI ht)) (updR (updR (updR R 5 (.ref pq)) 7 (.ref (a sp))) 8 (.ref (a op))) Z B J K.1 (fun q99 x99 => x99 = rep G a K q99) w := hO.to rfl
    obtain ⟨_, qr16, hqr17⟩ := hO.2.1 28 _ (sg_28 G h0 a _ _ _ _ _)
    refine pc_V0 (G := G) (As := [.long 0, .int x6]) (rest := []) hx hb hml hown hq hE hX pX0_al hP hD hS hA hl.1 (Y_hasElemN l G h0 a (upd (upd (upd (upd (upd (upd F 18 (nI ba)) 19 (nI ((tp - 1) - 1))) 20 (nI pc)) 21 (nI (pc + 1))) 23 5) 26 (nI ht)) (updR (updR (updR R 5 (.ref pq)) 7 (.ref (a sp))) 8 (.ref (a op))) Z B J K.1 (fun q99 x99 => x99 = rep G a K q99) w x6 hO) (gV pw_654 pw_655 pw_656 pw_539 pw_653) hV_X5_hasElement qr16 4 hqr17 rfl rfl rfl (Nat.le_of_ble_eq_true rfl) dX5_getElement_14 ⟨Nat.le_of_ble_eq_true rfl, Nat.le_of_ble_eq_true rfl⟩ ⟨Nat.le_of_ble_eq_true rfl, Nat.le_of_ble_eq_true rfl⟩ (fun v15 u13 H locs hw14 hP hD hS => ?_)
    obtain ⟨w, _⟩ := u13
    obtain ⟨hw14, hO⟩ := hw14
    obtain rfl : v15 = some (.int 0) := hw14
    have hO : OKP G h0 a (upd (upd (upd (upd (upd (upd F 18 (nI ba)) 19 (nI ((tp - 1) - 1))) 20 (nI pc)) 21 (nI (pc + 1))) 23 5) 26 (nI ht)) (updR (updR (updR R 5 (.ref pq)) 7 (.ref (a sp))) 8 (.ref (a op))) (rfV 1) B J K w := hO.to rfl
    refine W.widen (k := 0) (n := 0) (Nat.le_of_ble_eq_true rfl) (Nat.le_of_ble_eq_true rfl) ?_
    refine W.eq (g2 := F0 m 17 ls [.int 0]) rfl ?_
    refine lv_if_eq (tgt := 33) hx hb dX5_getElement_17 (by decide) (fun c18 => ?_) (fun c18 => absurd c18 (by decide))
    have hz19 : StQ y (B 19) Sh nn (J sp) ht (B 30) (B 16) on j9 ba pc fl ((tp - 1) - 1) (5 : Int32) (nI (pc + 1)) (rfV 1) (J 29) fl := (StQ.spq rfl (StQ.thrown hmi hmo (by rw [hop]; decide) (RaO.own hmi.2.1 (by omega) (by omega)) (fun _ _ => rfl) (Nat.le_refl _)))
    have hz20 : LoE J sp op := hle
    have hz21 : (B 33) 5 = nI fl := hfl
    have hz22 : fl ≤ fl ∧ ((tp - 1) - 1) ≤ 32000 := (by omega)
    have hO : OKP G h0 a (upd (upd (upd (upd (upd (upd F 18 (nI ba)) 19 (nI ((tp - 1) - 1))) 20 (nI pc)) 21 (nI (pc + 1))) 23 (5 : Int32)) 26 (nI ht)) (updR (updR (updR R 5 (.ref pq)) 7 (.ref (a sp))) 8 (.ref (a op))) (rfV 1) (updA (updA B 32 (B 32)) 33 (B 33)) J K w := hO.to rfl
    exact W.vret hx hb hr (fun t99 ht99 hW99 => ⟨⟨_, (w, (((tp - 1) - 1), (5 : Int32), (nI (pc + 1)), (rfV 1), J, (B 33), (B 32), fl)), rfl, ⟨rfl, hz19, hz20, hz21, hz22, hO⟩, by rw [ht99]; exact hP, hD⟩, hS.F ht99⟩) hS.2.2 dX5_getElement_33
  · skip
    rw [show ((J 29) ((tp - 1) - 1)) = rfV p9 from hq9]
    obtain ⟨n9, hh19, hh29, hh39, hh49, hh59, hh69, hh79⟩ := HT.hd hht hS9
    obtain ⟨hd6, hd7, hdl⟩ := hpy.2.2.2.2.2.2.2.2.1 d9 c9 hf9 r2
    obtain ⟨hf1, hf2, hf3, hf4⟩ := HT.elm hht hS9 hd6
    have hf5 := (hh69 hf1).1
    refine lv_lstore_n (lv' := [(2, .long (rfV p9)), (1, .int x6), (0, .ref (a 5))]) hx hb dX5_getElement_10 rfl hl (by decide) rfl (fun ls hl => ?_)
    refine lv_aload_n hx hb dX5_getElement_11 rfl (lv_at hl 2 rfl) ?_
    refine lv_lload_n hx hb dX5_getElement_12 rfl (lv_at hl 0 rfl) ?_
    refine lv_iload_n hx hb dX5_getElement_13 rfl (lv_at hl 1 rfl) ?_
    have hO : OKW G h0 a (upd (upd (upd (upd (upd (upd (upd F 18 (nI ba)) 19 (nI ((tp - 1) - 1))) 20 (nI pc)) 21 (nI (pc + 1))) 23 5) 26 (nI ht)) 26 (nI ht)) (updR (updR (updR (updR (updR R 5 (.ref pq)) 7 (.ref (a sp))) 8 (.ref (a op))) 7 (.ref (a sp))) 8 (.ref (a op))) Z B J K.1 (fun q99 x99 => x99 = rep G a K q99) w := hO.to rfl
    obtain ⟨_, qr26, hqr27⟩ := hO.2.1 28 _ (sg_28 G h0 a _ _ _ _ _)
    refine pc_V0 (G := G) (As := [.long (rfV p9), .int x6]) (rest := []) hx hb hml hown hq hE hX pX0_al hP hD hS hA hl.1 (Y_hasElem l G h0 a (upd (upd (upd (upd (upd (upd F 18 (nI ba)) 19 (nI ((tp - 1) - 1))) 20 (nI pc)) 21 (nI (pc + 1))) 23 5) 26 (nI ht)) (updR (updR (updR R 5 (.ref pq)) 7 (.ref (a sp))) 8 (.ref (a op))) Z B J K.1 (fun q99 x99 => x99 = rep G a K q99) w p9 n9 d9 sp op ht x6 hsp (by omega) (by omega) hh59 (by omega) hO) (gV pw_654 pw_655 pw_656 pw_539 pw_653) hV_X5_hasElement qr26 4 hqr27 rfl rfl rfl (Nat.le_of_ble_eq_true rfl) dX5_getElement_14 ⟨Nat.le_of_ble_eq_true rfl, Nat.le_of_ble_eq_true rfl⟩ ⟨Nat.le_of_ble_eq_true rfl, Nat.le_of_ble_eq_true rfl⟩ (fun v25 u23 H locs hw24 hP hD hS => ?_)
    obtain ⟨w, r28, z29⟩ := u23
    obtain ⟨hw24, h30, h31, hO⟩ := hw24
    have h30 : r28 ≤ 1 := h30
    have h31 : HeQ K.1 x6 n9 r28 Z z29 := h31
    obtain rfl : v25 = some (.int (nI r28)) := hw24
    have hO : OKP G h0 a (upd (upd (upd (upd (upd (upd F 18 (nI ba)) 19 (nI ((tp - 1) - 1))) 20 (nI pc)) 21 (nI (pc + 1))) 23 5) 26 (nI ht)) (updR (updR (updR R 5 (.ref pq)) 7 (.ref (a sp))) 8 (.ref (a op))) z29 B J K w := hO.to rfl
    refine W.widen (k := 0) (n := 0) (Nat.le_of_ble_eq_true rfl) (Nat.le_of_ble_eq_true rfl) ?_
    refine W.eq (g2 := F0 m 17 ls [.int (nI r28)]) rfl ?_
    refine lv_if_eq (tgt := 33) hx hb dX5_getElement_17 (by decide) (fun c32 => ?_) (fun c32 => ?_)
    · have n33 : r28 = 0 := (nI_eq (a := r28) (b := 0) (by omega) (by omega)).mp c32
      have hz4 := (Or.resolve_left h31 (fun z => by have := z.1; omega)).2
      have hz34 : StQ y (B 19) Sh nn (J sp) ht (B 30) (B 16) on j9 ba pc fl ((tp - 1) - 1) (5 : Int32) (nI (pc + 1)) z29 (J 29) fl := (StQ.spq rfl (StQ.thrown hmi hmo (by rw [hop]; decide) (by rw [hz4]; exact RaO.own hmi.2.1 (by omega) (by omega)) (fun _ _ => rfl) (Nat.le_refl _)))
      have hz35 : LoE J sp op := hle
      have hz36 : (B 33) 5 = nI fl := hfl
      have hz37 : fl ≤ fl ∧ ((tp - 1) - 1) ≤ 32000 := (by omega)
      have hO : OKP G h0 a (upd (upd (upd (upd (upd (upd F 18 (nI ba)) 19 (nI ((tp - 1) - 1))) 20 (nI pc)) 21 (nI (pc + 1))) 23 (5 : Int32)) 26 (nI ht)) (updR (updR (updR R 5 (.ref pq)) 7 (.ref (a sp))) 8 (.ref (a op))) z29 (updA (updA B 32 (B 32)) 33 (B 33)) J K w := hO.to rfl
      exact W.vret hx hb hr (fun t99 ht99 hW99 => ⟨⟨_, (w, (((tp - 1) - 1), (5 : Int32), (nI (pc + 1)), z29, J, (B 33), (B 32), fl)), rfl, ⟨rfl, hz34, hz35, hz36, hz37, hO⟩, by rw [ht99]; exact hP, hD⟩, hS.F ht99⟩) hS.2.2 dX5_getElement_33
    · have n38 : ¬ (r28 = 0) := fun h9 => c32 ((nI_eq (a := r28) (b := 0) (by omega) (by omega)).mpr h9)
      obtain ⟨_, hz0, i9, hi9, hi8⟩ := Or.resolve_right h31 (fun z => by have := z.1; omega)
      rw [hi9] at hl
      refine lv_aload_n hx hb dX5_getElement_20 rfl (lv_at hl 2 rfl) ?_
      refine lv_aload_n hx hb dX5_getElement_21 rfl (lv_at hl 2 rfl) ?_
      refine c_get (v := .ref (a 28)) (C := RX5) (Tc := TX5) (N := 19) (ci := 4) hx hb hq pin_wsX50 hown hE hP hO 28 (sg_28 G h0 a _ _ _ _ _) rfl 1 (by decide) (hq _ pw_473) (fun _ h9 => h9) rfl dX5_getElement_22 ?_
      refine lv_lload_n hx hb dX5_getElement_25 rfl (lv_at hl 0 rfl) ?_
      refine lv_iload_n hx hb dX5_getElement_26 rfl (lv_at hl 1 rfl) ?_
      have hO : OKW G h0 a (upd (upd (upd (upd (upd (upd (upd F 18 (nI ba)) 19 (nI ((tp - 1) - 1))) 20 (nI pc)) 21 (nI (pc + 1))) 23 5) 26 (nI ht)) 26 (nI ht)) (updR (updR (updR (updR (updR R 5 (.ref pq)) 7 (.ref (a sp))) 8 (.ref (a op))) 7 (.ref (a sp))) 8 (.ref (a op))) z29 B J K.1 (fun q99 x99 => x99 = rep G a K q99) w := hO.to rfl
      obtain ⟨_, qr42, hqr43⟩ := hO.2.1 29 _ (sg_29 G h0 a _ _ _ _ _)
      refine pc_V0 (G := G) (As := [.long (rfV p9), .int (nI i9)]) (rest := [.ref (a 5)]) hx hb hml hown hq hE hX pX0_al hP hD hS hA hl.1 (Y_get l G h0 a (upd (upd (upd (upd (upd (upd F 18 (nI ba)) 19 (nI ((tp - 1) - 1))) 20 (nI pc)) 21 (nI (pc + 1))) 23 5) 26 (nI ht)) (updR (updR (updR R 5 (.ref pq)) 7 (.ref (a sp))) 8 (.ref (a op))) z29 B J K.1 (fun q99 x99 => x99 = rep G a K q99) w p9 n9 d9 sp op ht 2 i9 (J sp (p9 + 2 + i9)) hsp (by omega) (by omega) hh59 (by omega) (by omega) (by omega) rfl hO) (gV pw_494 pw_495 pw_496 pw_440 pw_452) hV_X3_get qr42 3 hqr43 rfl rfl rfl (Nat.le_of_ble_eq_true rfl) dX5_getElement_27 ⟨Nat.le_of_ble_eq_true rfl, Nat.le_of_ble_eq_true rfl⟩ ⟨Nat.le_of_ble_eq_true rfl, Nat.le_of_ble_eq_true rfl⟩ (fun v41 u39 H locs hw40 hP hD hS => ?_)
      obtain ⟨w, _⟩ := u39
      obtain ⟨hw40, hO⟩ := hw40
      obtain rfl : v41 = some (.long (J sp (p9 + 2 + i9))) := hw40
      have hO : OKP G h0 a (upd (upd (upd (upd (upd (upd F 18 (nI ba)) 19 (nI ((tp - 1) - 1))) 20 (nI pc)) 21 (nI (pc + 1))) 23 5) 26 (nI ht)) (updR (updR (updR R 5 (.ref pq)) 7 (.ref (a sp))) 8 (.ref (a op))) z29 B J K w := hO.to rfl
      refine W.widen (k := 0) (n := 0) (Nat.le_of_ble_eq_true rfl) (Nat.le_of_ble_eq_true rfl) ?_
      refine W.eq (g2 := F0 m 30 ls [.long (J sp (p9 + 2 + i9)), .ref (a 5)]) rfl ?_
      have hO : OKW G h0 a (upd (upd (upd (upd (upd (upd (upd F 18 (nI ba)) 19 (nI ((tp - 1) - 1))) 20 (nI pc)) 21 (nI (pc + 1))) 23 5) 26 (nI ht)) 19 (nI ((tp - 1) - 1))) (updR (updR (updR R 5 (.ref pq)) 7 (.ref (a sp))) 8 (.ref (a op))) z29 B J K.1 (fun q99 x99 => x99 = rep G a K q99) w := hO.to rfl
      obtain ⟨_, qr47, hqr48⟩ := hO.2.1 28 _ (sg_28 G h0 a _ _ _ _ _)
      refine pc_V0 (G := G) (As := [.long (J sp (p9 + 2 + i9))]) (rest := []) hx hb hml hown hq hE hX pX0_al hP hD hS hA hl.1 (Y_push l G h0 a (upd (upd (upd (upd (upd (upd F 18 (nI ba)) 19 (nI ((tp - 1) - 1))) 20 (nI pc)) 21 (nI (pc + 1))) 23 5) 26 (nI ht)) (updR (updR (updR R 5 (.ref pq)) 7 (.ref (a sp))) 8 (.ref (a op))) z29 B J K.1 (fun q99 x99 => x99 = rep G a K q99) w (J sp (p9 + 2 + i9)) ((tp - 1) - 1) (by omega) hO) (gV pw_549 pw_550 pw_551 pw_539 pw_535) hV_X5_push qr47 4 hqr48 rfl rfl rfl (Nat.le_of_ble_eq_true rfl) dX5_getElement_30 ⟨Nat.le_of_ble_eq_true rfl, Nat.le_of_ble_eq_true rfl⟩ ⟨Nat.le_of_ble_eq_true rfl, Nat.le_of_ble_eq_true rfl⟩ (fun v46 u44 H locs hw45 hP hD hS => ?_)
      obtain ⟨w, _⟩ := u44
      obtain ⟨hw45, hO⟩ := hw45
      obtain rfl : v46 = none := hw45
      have hO : OKP G h0 a (upd (upd (upd (upd (upd (upd F 18 (nI ba)) 19 (nI (((tp - 1) - 1) + 1))) 20 (nI pc)) 21 (nI (pc + 1))) 23 5) 26 (nI ht)) (updR (updR (updR R 5 (.ref pq)) 7 (.ref (a sp))) 8 (.ref (a op))) z29 B (updJ J 29 (vp_updL ((J 29)) ((tp - 1) - 1) (J sp (p9 + 2 + i9)))) K w := hO.to rfl
      refine W.widen (k := 0) (n := 0) (Nat.le_of_ble_eq_true rfl) (Nat.le_of_ble_eq_true rfl) ?_
      refine W.eq (g2 := F0 m 33 ls []) rfl ?_
      have hz49 : StQ y (B 19) Sh nn ((updJ J 29 (vp_updL ((J 29)) ((tp - 1) - 1) (J sp (p9 + 2 + i9)))) sp) ht (B 30) (B 16) on j9 ba pc fl (((tp - 1) - 1) + 1) (5 : Int32) (nI (pc + 1)) z29 ((updJ J 29 (vp_updL ((J 29)) ((tp - 1) - 1) (J sp (p9 + 2 + i9)))) 29) fl := (StQ.spq (updJ_ne h29.1) (StQ.on1 hmi hmo (by rw [hop]; decide) (FFy.put hu4 (hdl _ _ (hf4 i9 (by omega)))) r4 (fun i hi => vpL_ne (by omega)) (Nat.le_refl _) (hz0.trans hZ)))
      have hz50 : LoE (updJ J 29 (vp_updL ((J 29)) ((tp - 1) - 1) (J sp (p9 + 2 + i9)))) sp op := (LoE.up hle h29.1 h29.2)
      have hz51 : (B 33) 5 = nI fl := hfl
      have hz52 : fl ≤ fl ∧ (((tp - 1) - 1) + 1) ≤ 32000 := (by omega)
      have hO : OKP G h0 a (upd (upd (upd (upd (upd (upd F 18 (nI ba)) 19 (nI (((tp - 1) - 1) + 1))) 20 (nI pc)) 21 (nI (pc + 1))) 23 (5 : Int32)) 26 (nI ht)) (updR (updR (updR R 5 (.ref pq)) 7 (.ref (a sp))) 8 (.ref (a op))) z29 (updA (updA B 32 (B 32)) 33 (B 33)) (updJ J 29 (vp_updL ((J 29)) ((tp - 1) - 1) (J sp (p9 + 2 + i9)))) K w := hO.to rfl
      exact W.vret hx hb hr (fun t99 ht99 hW99 => ⟨⟨_, (w, ((((tp - 1) - 1) + 1), (5 : Int32), (nI (pc + 1)), z29, (updJ J 29 (vp_updL ((J 29)) ((tp - 1) - 1) (J sp (p9 + 2 + i9)))), (B 33), (B 32), fl)), rfl, ⟨rfl, hz49, hz50, hz51, hz52, hO⟩, by rw [ht99]; exact hP, hD⟩, hS.F ht99⟩) hS.2.2 dX5_getElement_33
set_option maxHeartbeats 20000000 in
set_option maxRecDepth 100000 in
theorem Y_putElement (l : Launch) (G : pT) (h0 : Nat) (a : Nat → Nat) (F : Nat → Int32) (R : Nat → Value) (Z : Int64) (B : Nat → Nat → Int32) (J : Nat → Nat → Int64) (K : PK) (w : va_W) (y : TY) (Sh : Nat → Nat) (nn : Nat → Nat) (on : Nat) (j9 : Nat) (ba : Nat) (pc : Nat) (tp : Nat) (sp : Nat) (op : Nat) (ht : Nat) (fl : Nat) (pq : Nat) (dr : Nat) (ml : Nat) (nd : Nat) (nm : Nat) (cp : Nat) (it : Nat → Nat) (s9 : Nat) (g : Nat → Nat → Nat) (rk : Nat → Nat) (cs : Nat) (rg : Nat) (hsp : (sp = 34 ∧ op = 35) ∨ (sp = 35 ∧ op = 34)) (hmi : MIy y (B 19) Sh nn (J sp) ht (B 30) (J 29) on j9 ba pc tp) (hmo : MOy y (B 16) (B 17) (B 18) (B 19) j9) (hZ : Z = 0) (hfl : B 33 5 = nI fl) (hflb : fl ≤ 20000) (hop : B 16 pc = nI 20) (hru : IRy y (B 16) (B 17) (B 18) pc j9 20) (hwp : WPr G K g) (hps : PgT G K g (a 1) pq dr ml nd nm cp it s9) (hrk : RkO K rk) (hpy : PrY y K B dr nd nm it cs rg) (hle : LoE J sp op) (hO : OKP G h0 a (upd (upd (upd (upd (upd (upd F 18 (nI ba)) 19 (nI tp)) 20 (nI pc)) 21 (nI (pc + 1))) 23 5) 26 (nI ht)) (updR (updR (updR R 5 (.ref pq)) 7 (.ref (a sp))) 8 (.ref (a op))) Z B J K w) : PM l G pX0 yX5_putElement cX5_putElement 7 none ({ frames := 6, cells := 0, slots := 0, locals := 155 }) [.ref (a 5)] w (fun (v : Option Value) (u : va_W × (Nat × Int32 × Int32 × Int64 × (Nat → Nat → Int64) × (Nat → Int32) × (Nat → Int32) × Nat)) => v = none ∧ (StQ y (B 19) Sh nn (u.2.2.2.2.2.1 sp) ht (B 30) (B 16) on j9 ba pc fl u.2.1 u.2.2.1 u.2.2.2.1 u.2.2.2.2.1 (u.2.2.2.2.2.1 29) u.2.2.2.2.2.2.2.2) ∧ (LoE u.2.2.2.2.2.1 sp op) ∧ (u.2.2.2.2.2.2.1 5 = nI u.2.2.2.2.2.2.2.2) ∧ (u.2.2.2.2.2.2.2.2 ≤ fl ∧ u.2.1 ≤ 32000) ∧ (OKP G h0 a (upd (upd (upd (upd (upd (upd F 18 (nI ba)) 19 (nI u.2.1)) 20 (nI pc)) 21 u.2.2.2.1) 23 u.2.2.1) 26 (nI ht)) (updR (updR (updR R 5 (.ref pq)) 7 (.ref (a sp))) 8 (.ref (a op))) u.2.2.2.2.1 (updA (updA B 32 u.2.2.2.2.2.2.2.1) 33 u.2.2.2.2.2.2.1) u.2.2.2.2.2.1 K u.1)) (fun u => u.1) := by
  intro sz
  refine Met.ofW (cc := cX5_putElement) (maxL := 7) (ret := none) (by decide) rfl ?_
  intro p e s m args below meth c s₁ B9 hml hv
  obtain ⟨rfl, hsz, hP, hD0, hE, hX⟩ := hv
  have hx := B9.exec
  have hb := B9.bytes
  have hr := B9.returns
  have hts := atoms_spec (ws := Cond.code yX5_putElement cX5_putElement 7 none :: pw) B9.pre
  have hq : ∀ w ∈ pw, w.before _ s = true := fun w h => hts w (List.mem_cons_of_mem _ h)
  have hown : s.vm.findClass RX5 = some m.cls := findClass_of_methodNamed B9.named
  have hlocks := B9.notSynchronized
  subst hsz
  have hD := hD0.self (sz := s.heap.size)
  have hA : ∀ q : Nat, s.heap.size ≤ q → va_A w s.heap.size q := fun q h => Or.inr h
  generalize va_A w s.heap.size = A at hD hE hA ⊢
  have hS : va_S A s.heap s.heap [] := va_S.rf
  have hl := lv_entry ([.ref (a 5)]) (n := 7) (Nat.le_of_ble_eq_true rfl)
  rw [lg_entry_eq]
  generalize (lg_sl ([.ref (a 5)]) ++ List.replicate (7 - (lg_sl ([.ref (a 5)])).length) Slot.unset).toArray = ls at hl ⊢
  have hl : lv_has ls 7 [(0, .ref (a 5))] := hl
  obtain ⟨hn1, hn2, hn3, hn4, hn5, hn6, hn7, hn8, hn9, hn10, hn11, hn12⟩ := MIy.nums hmi hmo
  have hlo := FFy.lo hmi.ff
  have hpg := hps.1
  have hp1 := hpg.1
  have hp2 := hpg.2.1
  have hp3 := hpg.2.2.1
  have hp4 := hpg.2.2.2.1
  have hp5 := hpg.2.2.2.2.1
  have hp6 := hpg.2.2.2.2.2.1
  have hp8 := hpg.2.2.2.2.2.2.2.1
  have hp9 := hpg.2.2.2.2.2.2.2.2
  have h29 : ¬ sp = 29 ∧ ¬ op = 29 := by omega
  have hht := hmi.1.2.2.2
  obtain ⟨t9, i8, c9, os, r1, r2, r3, r4, r5⟩ := hru
  obtain ⟨hv1, hv2, hv3, hv4⟩ := FFy.pop hmi.ff r1
  obtain ⟨hu1, hu2, hu3, hu4⟩ := FFy.pop hv4 (show (wos (i8 :: c9 :: os) (yA y j9 pc)).2.2.2 = i8 :: c9 :: os from rfl)
  obtain ⟨hw1, hw2, hw3, hw4⟩ := FFy.pop hu4 (show (wos (c9 :: os) (yA y j9 pc)).2.2.2 = c9 :: os from rfl)
  have hvc := r4 _ _ hv3
  refine lv_aload_n hx hb dX5_putElement_0 rfl (lv_at hl 0 rfl) ?_
  have hO : OKW G h0 a (upd (upd (upd (upd (upd (upd (upd F 18 (nI ba)) 19 (nI tp)) 20 (nI pc)) 21 (nI (pc + 1))) 23 5) 26 (nI ht)) 19 (nI tp)) (updR (updR (updR R 5 (.ref pq)) 7 (.ref (a sp))) 8 (.ref (a op))) Z B J K.1 (fun q99 x99 => x99 = rep G a K q99) w := hO.to rfl
  obtain ⟨_, qr4, hqr5⟩ := hO.2.1 28 _ (sg_28 G h0 a _ _ _ _ _)
  refine pc_V0 (G := G) (As := []) (rest := []) hx hb hml hown hq hE hX pX0_al hP hD hS hA hl.1 (Y_pop l G h0 a (upd (upd (upd (upd (upd (upd F 18 (nI ba)) 19 (nI tp)) 20 (nI pc)) 21 (nI (pc + 1))) 23 5) 26 (nI ht)) (updR (updR (updR R 5 (.ref pq)) 7 (.ref (a sp))) 8 (.ref (a op))) Z B J K.1 (fun q99 x99 => x99 = rep G a K q99) w tp (by omega) hO) (gV pw_598 pw_599 pw_600 pw_539 pw_595) hV_X5_pop qr4 4 hqr5 rfl rfl rfl (Nat.le_of_ble_eq_true rfl) dX5_putElement_1 ⟨Nat.le_of_ble_eq_true rfl, Nat.le_of_ble_eq_true rfl⟩ ⟨Nat.le_of_ble_eq_true rfl, Nat.le_of_ble_eq_true rfl⟩ (fun v3 u1 H locs hw2 hP hD hS => ?_)
  obtain ⟨w, _⟩ := u1
  obtain ⟨hw2, hO⟩ := hw2
  obtain rfl : v3 = some (.long ((J 29) (tp - 1))) := hw2
  have hO : OKP G h0 a (upd (upd (upd (upd (upd (upd F 18 (nI ba)) 19 (nI (tp - 1))) 20 (nI pc)) 21 (nI (pc + 1))) 23 5) 26 (nI ht)) (updR (updR (updR R 5 (.ref pq)) 7 (.ref (a sp))) 8 (.ref (a op))) Z B J K w := hO.to rfl
  refine W.widen (k := 0) (n := 0) (Nat.le_of_ble_eq_true rfl) (Nat.le_of_ble_eq_true rfl) ?_
  refine W.eq (g2 := F0 m 4 ls [.long ((J 29) (tp - 1))]) rfl ?_
  refine lv_lstore_n (lv' := [(1, .long ((J 29) (tp - 1))), (0, .ref (a 5))]) hx hb dX5_putElement_4 rfl hl (by decide) rfl (fun ls hl => ?_)
  refine lv_aload_n hx hb dX5_putElement_5 rfl (lv_at hl 1 rfl) ?_
  have hO : OKW G h0 a (upd (upd (upd (upd (upd (upd (upd F 18 (nI ba)) 19 (nI (tp - 1))) 20 (nI pc)) 21 (nI (pc + 1))) 23 5) 26 (nI ht)) 19 (nI (tp - 1))) (updR (updR (updR R 5 (.ref pq)) 7 (.ref (a sp))) 8 (.ref (a op))) Z B J K.1 (fun q99 x99 => x99 = rep G a K q99) w := hO.to rfl
  obtain ⟨_, qr9, hqr10⟩ := hO.2.1 28 _ (sg_28 G h0 a _ _ _ _ _)
  refine pc_V0 (G := G) (As := []) (rest := []) hx hb hml hown hq hE hX pX0_al hP hD hS hA hl.1 (Y_pop l G h0 a (upd (upd (upd (upd (upd (upd F 18 (nI ba)) 19 (nI (tp - 1))) 20 (nI pc)) 21 (nI (pc + 1))) 23 5) 26 (nI ht)) (updR (updR (updR R 5 (.ref pq)) 7 (.ref (a sp))) 8 (.ref (a op))) Z B J K.1 (fun q99 x99 => x99 = rep G a K q99) w (tp - 1) (by omega) hO) (gV pw_598 pw_599 pw_600 pw_539 pw_595) hV_X5_pop qr9 4 hqr10 rfl rfl rfl (Nat.le_of_ble_eq_true rfl) dX5_putElement_6 ⟨Nat.le_of_ble_eq_true rfl, Nat.le_of_ble_eq_true rfl⟩ ⟨Nat.le_of_ble_eq_true rfl, Nat.le_of_ble_eq_true rfl⟩ (fun v8 u6 H locs hw7 hP hD hS => ?_)
  obtain ⟨w, _⟩ := u6
  obtain ⟨hw7, hO⟩ := hw7
  obtain rfl : v8 = some (.long ((J 29) ((tp - 1) - 1))) := hw7
  have hO : OKP G h0 a (upd (upd (upd (upd (upd (upd F 18 (nI ba)) 19 (nI ((tp - 1) - 1))) 20 (nI pc)) 21 (nI (pc + 1))) 23 5) 26 (nI ht)) (updR (updR (updR R 5 (.ref pq)) 7 (.ref (a sp))) 8 (.ref (a op))) Z B J K w := hO.to rfl
  refine W.widen (k := 0) (n := 0) (Nat.le_of_ble_eq_true rfl) (Nat.le_of_ble_eq_true rfl) ?_
  refine W.eq (g2 := F0 m 9 ls [.long ((J 29) ((tp - 1) - 1))]) rfl ?_
  refine lv_l2i hx hb dX5_putElement_9 rfl ?_
  refine lv_topi (fun x11 e12 => ?_)
  refine lv_istore_n (lv' := [(3, .int x11), (1, .long ((J 29) (tp - 1))), (0, .ref (a 5))]) hx hb dX5_putElement_10 rfl hl (by decide) rfl (fun ls hl => ?_)
  refine lv_aload_n hx hb dX5_putElement_11 rfl (lv_at hl 2 rfl) ?_
  have hO : OKW G h0 a (upd (upd (upd (upd (upd (upd (upd F 18 (nI ba)) 19 (nI ((tp - 1) - 1))) 20 (nI pc)) 21 (nI (pc + 1))) 23 5) 26 (nI ht)) 19 (nI ((tp - 1) - 1))) (updR (updR (updR R 5 (.ref pq)) 7 (.ref (a sp))) 8 (.ref (a op))) Z B J K.1 (fun q99 x99 => x99 = rep G a K q99) w := hO.to rfl
  obtain ⟨_, qr16, hqr17⟩ := hO.2.1 28 _ (sg_28 G h0 a _ _ _ _ _)
  refine pc_V0 (G := G) (As := []) (rest := []) hx hb hml hown hq hE hX pX0_al hP hD hS hA hl.1 (Y_pop l G h0 a (upd (upd (upd (upd (upd (upd F 18 (nI ba)) 19 (nI ((tp - 1) - 1))) 20 (nI pc)) 21 (nI (pc + 1))) 23 5) 26 (nI ht)) (updR (updR (updR R 5 (.ref pq)) 7 (.ref (a sp))) 8 (.ref (a op))) Z B J K.1 (fun q99 x99 => x99 = rep G a K q99) w ((tp - 1) - 1) (by omega) hO) (gV pw_598 pw_599 pw_600 pw_539 pw_595) hV_X5_pop qr16 4 hqr17 rfl rfl rfl (Nat.le_of_ble_eq_true rfl) dX5_putElement_12 ⟨Nat.le_of_ble_eq_true rfl, Nat.le_of_ble_eq_true rfl⟩ ⟨Nat.le_of_ble_eq_true rfl, Nat.le_of_ble_eq_true rfl⟩ (fun v15 u13 H locs hw14 hP hD hS => ?_)
  obtain ⟨w, _⟩ := u13
  obtain ⟨hw14, hO⟩ := hw14
  obtain rfl : v15 = some (.long ((J 29) (((tp - 1) - 1) - 1))) := hw14
  have hO : OKP G h0 a (upd (upd (upd (upd (upd (upd F 18 (nI ba)) 19 (nI (((tp - 1) - 1) - 1))) 20 (nI pc)) 21 (nI (pc + 1))) 23 5) 26 (nI ht)) (updR (updR (updR R 5 (.ref pq)) 7 (.ref (a sp))) 8 (.ref (a op))) Z B J K w := hO.to rfl
  refine W.widen (k := 0) (n := 0) (Nat.le_of_ble_eq_true rfl) (Nat.le_of_ble_eq_true rfl) ?_
  refine W.eq (g2 := F0 m 15 ls [.long ((J 29) (((tp - 1) - 1) - 1))]) rfl ?_
  rcases VT.rf hw3 (Or.inr (Or.inr ⟨r2, r3⟩)) with hq9 | ⟨p9, d9, hp9, hq9, hS9, hf9⟩
  · skip
    rw [show ((J 29) (((tp - 1) - 1) - 1)) = 0 from hq9]
    refine lv_lstore (lv' := [(4, .long 0), (3, .int x11), (1, .long ((J 29) (tp - 1))), (0, .ref (a 5))]) hx hb dX5_putElement_15 hl (by decide) rfl (fun ls hl => ?_)
    refine lv_aload_n hx hb dX5_putElement_17 rfl (lv_at hl 3 rfl) ?_
    refine lv_lload hx hb dX5_putElement_18 (lv_at hl 0 rfl) ?_
    refine lv_iload_n hx hb dX5_putElement_20 rfl (lv_at hl 1 rfl) ?_
    have hO : OKW G h0 a (upd (upd (upd (upd (upd (upd F 18 (nI ba)) 19 (nI (((tp - 1) - 1) - 1))) 20 (nI pc)) 21 (nI (pc + 1))) 23 5) 26 (nI ht)) (updR (updR (updR R 5 (.ref pq)) 7 (.ref (a sp))) 8 (.ref (a op))) Z B J K.1 (fun q99 x99 => x99 = rep G a K q99) w := hO.to rfl
    obtain ⟨_, qr21, hqr22⟩ := hO.2.1 28 _ (sg_28 G h0 a _ _ _ _ _)
    refine pc_V0 (G := G) (As := [.long 0, .int x11]) (rest := []) hx hb hml hown hq hE hX pX0_al hP hD hS hA hl.1 (Y_hasElemN l G h0 a (upd (upd (upd (upd (upd (upd F 18 (nI ba)) 19 (nI (((tp - 1) - 1) - 1))) 20 (nI pc)) 21 (nI (pc + 1))) 23 5) 26 (nI ht)) (updR (updR (updR R 5 (.ref pq)) 7 (.ref (a sp))) 8 (.ref (a op))) Z B J K.1 (fun q99 x99 => x99 = rep G a K q99) w x11 hO) (gV pw_654 pw_655 pw_656 pw_539 pw_653) hV_X5_hasElement qr21 4 hqr22 rfl rfl rfl (Nat.le_of_ble_eq_true rfl) dX5_putElement_21 ⟨Nat.le_of_ble_eq_true rfl, Nat.le_of_ble_eq_true rfl⟩ ⟨Nat.le_of_ble_eq_true rfl, Nat.le_of_ble_eq_true rfl⟩ (fun v20 u18 H locs hw19 hP hD hS => ?_)
    obtain ⟨w, _⟩ := u18
    obtain ⟨hw19, hO⟩ := hw19
    obtain rfl : v20 = some (.int 0) := hw19
    have hO : OKP G h0 a (upd (upd (upd (upd (upd (upd F 18 (nI ba)) 19 (nI (((tp - 1) - 1) - 1))) 20 (nI pc)) 21 (nI (pc + 1))) 23 5) 26 (nI ht)) (updR (updR (updR R 5 (.ref pq)) 7 (.ref (a sp))) 8 (.ref (a op))) (rfV 1) B J K w := hO.to rfl
    refine W.widen (k := 0) (n := 0) (Nat.le_of_ble_eq_true rfl) (Nat.le_of_ble_eq_true rfl) ?_
    refine W.eq (g2 := F0 m 24 ls [.int 0]) rfl ?_
    refine lv_if_ne (tgt := 28) hx hb dX5_putElement_24 (by decide) (fun c23 => absurd c23 (by decide)) (fun c23 => ?_)
    have hz24 : StQ y (B 19) Sh nn (J sp) ht (B 30) (B 16) on j9 ba pc fl (((tp - 1) - 1) - 1) (5 : Int32) (nI (pc + 1)) (rfV 1) (J 29) fl := (StQ.thrown hmi hmo (by rw [hop]; decide) (RaO.own hmi.2.1 (by omega) (by omega)) (fun _ _ => rfl) (Nat.le_refl _))
    have hz25 : LoE J sp op := hle
    have hz26 : (B 33) 5 = nI fl := hfl
    have hz27 : fl ≤ fl ∧ (((tp - 1) - 1) - 1) ≤ 32000 := (by omega)
    have hO : OKP G h0 a (upd (upd (upd (upd (upd (upd F 18 (nI ba)) 19 (nI (((tp - 1) - 1) - 1))) 20 (nI pc)) 21 (nI (pc + 1))) 23 (5 : Int32)) 26 (nI ht)) (updR (updR (updR R 5 (.ref pq)) 7 (.ref (a sp))) 8 (.ref (a op))) (rfV 1) (updA (updA B 32 (B 32)) 33 (B 33)) J K w := hO.to rfl
    exact W.vret hx hb hr (fun t99 ht99 hW99 => ⟨⟨_, (w, ((((tp - 1) - 1) - 1), (5 : Int32), (nI (pc + 1)), (rfV 1), J, (B 33), (B 32), fl)), rfl, ⟨rfl, hz24, hz25, hz26, hz27, hO⟩, by rw [ht99]; exact hP, hD⟩, hS.F ht99⟩) hS.2.2 dX5_putElement_27
  · skip
    rw [show ((J 29) (((tp - 1) - 1) - 1)) = rfV p9 from hq9]
    obtain ⟨n9, hh19, hh29, hh39, hh49, hh59, hh69, hh79⟩ := HT.hd hht hS9
    obtain ⟨hd6, hd7, hdl⟩ := hpy.2.2.2.2.2.2.2.2.1 d9 c9 hf9 r2
    obtain ⟨hf1, hf2, hf3, hf4⟩ := HT.elm hht hS9 hd6
    have hf5 := (hh69 hf1).1
    refine lv_lstore (lv' := [(4, .long (rfV p9)), (3, .int x11), (1, .long ((J 29) (tp - 1))), (0, .ref (a 5))]) hx hb dX5_putElement_15 hl (by decide) rfl (fun ls hl => ?_)
    refine lv_aload_n hx hb dX5_putElement_17 rfl (lv_at hl 3 rfl) ?_
    refine lv_lload hx hb dX5_putElement_18 (lv_at hl 0 rfl) ?_
    refine lv_iload_n hx hb dX5_putElement_20 rfl (lv_at hl 1 rfl) ?_
    have hO : OKW G h0 a (upd (upd (upd (upd (upd (upd (upd F 18 (nI ba)) 19 (nI (((tp - 1) - 1) - 1))) 20 (nI pc)) 21 (nI (pc + 1))) 23 5) 26 (nI ht)) 26 (nI ht)) (updR (updR (updR (updR (updR R 5 (.ref pq)) 7 (.ref (a sp))) 8 (.ref (a op))) 7 (.ref (a sp))) 8 (.ref (a op))) Z B J K.1 (fun q99 x99 => x99 = rep G a K q99) w := hO.to rfl
    obtain ⟨_, qr31, hqr32⟩ := hO.2.1 28 _ (sg_28 G h0 a _ _ _ _ _)
    refine pc_V0 (G := G) (As := [.long (rfV p9), .int x11]) (rest := []) hx hb hml hown hq hE hX pX0_al hP hD hS hA hl.1 (Y_hasElem l G h0 a (upd (upd (upd (upd (upd (upd F 18 (nI ba)) 19 (nI (((tp - 1) - 1) - 1))) 20 (nI pc)) 21 (nI (pc + 1))) 23 5) 26 (nI ht)) (updR (updR (updR R 5 (.ref pq)) 7 (.ref (a sp))) 8 (.ref (a op))) Z B J K.1 (fun q99 x99 => x99 = rep G a K q99) w p9 n9 d9 sp op ht x11 hsp (by omega) (by omega) hh59 (by omega) hO) (gV pw_654 pw_655 pw_656 pw_539 pw_653) hV_X5_hasElement qr31 4 hqr32 rfl rfl rfl (Nat.le_of_ble_eq_true rfl) dX5_putElement_21 ⟨Nat.le_of_ble_eq_true rfl, Nat.le_of_ble_eq_true rfl⟩ ⟨Nat.le_of_ble_eq_true rfl, Nat.le_of_ble_eq_true rfl⟩ (fun v30 u28 H locs hw29 hP hD hS => ?_)
    obtain ⟨w, r33, z34⟩ := u28
    obtain ⟨hw29, h35, h36, hO⟩ := hw29
    have h35 : r33 ≤ 1 := h35
    have h36 : HeQ K.1 x11 n9 r33 Z z34 := h36
    obtain rfl : v30 = some (.int (nI r33)) := hw29
    have hO : OKP G h0 a (upd (upd (upd (upd (upd (upd F 18 (nI ba)) 19 (nI (((tp - 1) - 1) - 1))) 20 (nI pc)) 21 (nI (pc + 1))) 23 5) 26 (nI ht)) (updR (updR (updR R 5 (.ref pq)) 7 (.ref (a sp))) 8 (.ref (a op))) z34 B J K w := hO.to rfl
    refine W.widen (k := 0) (n := 0) (Nat.le_of_ble_eq_true rfl) (Nat.le_of_ble_eq_true rfl) ?_
    refine W.eq (g2 := F0 m 24 ls [.int (nI r33)]) rfl ?_
    refine lv_if_ne (tgt := 28) hx hb dX5_putElement_24 (by decide) (fun c37 => ?_) (fun c37 => ?_)
    · have n38 : ¬ (r33 = 0) := fun h9 => c37 ((nI_eq (a := r33) (b := 0) (by omega) (by omega)).mpr h9)
      obtain ⟨_, hz0, i9, hi9, hi8⟩ := Or.resolve_right h36 (fun z => by have := z.1; omega)
      rw [hi9] at hl
      refine lv_aload_n hx hb dX5_putElement_28 rfl (lv_at hl 3 rfl) ?_
      refine c_get (v := .ref (a 28)) (C := RX5) (Tc := TX5) (N := 19) (ci := 4) hx hb hq pin_wsX50 hown hE hP hO 28 (sg_28 G h0 a _ _ _ _ _) rfl 1 (by decide) (hq _ pw_473) (fun _ h9 => h9) rfl dX5_putElement_29 ?_
      refine lv_lload hx hb dX5_putElement_32 (lv_at hl 0 rfl) ?_
      have hO : OKW G h0 a (upd (upd (upd (upd (upd (upd (upd F 18 (nI ba)) 19 (nI (((tp - 1) - 1) - 1))) 20 (nI pc)) 21 (nI (pc + 1))) 23 5) 26 (nI ht)) 26 (nI ht)) (updR (updR (updR (updR (updR R 5 (.ref pq)) 7 (.ref (a sp))) 8 (.ref (a op))) 7 (.ref (a sp))) 8 (.ref (a op))) z34 B J K.1 (fun q99 x99 => x99 = rep G a K q99) w := hO.to rfl
      obtain ⟨_, qr42, hqr43⟩ := hO.2.1 29 _ (sg_29 G h0 a _ _ _ _ _)
      refine pc_V0 (G := G) (As := [.long (rfV p9)]) (rest := []) hx hb hml hown hq hE hX pX0_al hP hD hS hA hl.1 (Y_typeOf l G h0 a (upd (upd (upd (upd (upd (upd F 18 (nI ba)) 19 (nI (((tp - 1) - 1) - 1))) 20 (nI pc)) 21 (nI (pc + 1))) 23 5) 26 (nI ht)) (updR (updR (updR R 5 (.ref pq)) 7 (.ref (a sp))) 8 (.ref (a op))) z34 B J K.1 (fun q99 x99 => x99 = rep G a K q99) w p9 n9 d9 sp op ht hsp (by omega) (by omega) hh59 hO) (gV pw_489 pw_490 pw_491 pw_440 pw_441) hV_X3_typeOf qr42 3 hqr43 rfl rfl rfl (Nat.le_of_ble_eq_true rfl) dX5_putElement_34 ⟨Nat.le_of_ble_eq_true rfl, Nat.le_of_ble_eq_true rfl⟩ ⟨Nat.le_of_ble_eq_true rfl, Nat.le_of_ble_eq_true rfl⟩ (fun v41 u39 H locs hw40 hP hD hS => ?_)
      obtain ⟨w, _⟩ := u39
      obtain ⟨hw40, hO⟩ := hw40
      obtain rfl : v41 = some (.int (nI d9)) := hw40
      have hO : OKP G h0 a (upd (upd (upd (upd (upd (upd F 18 (nI ba)) 19 (nI (((tp - 1) - 1) - 1))) 20 (nI pc)) 21 (nI (pc + 1))) 23 5) 26 (nI ht)) (updR (updR (updR R 5 (.ref pq)) 7 (.ref (a sp))) 8 (.ref (a op))) z34 B J K w := hO.to rfl
      refine W.widen (k := 0) (n := 0) (Nat.le_of_ble_eq_true rfl) (Nat.le_of_ble_eq_true rfl) ?_
      refine W.eq (g2 := F0 m 37 ls [.int (nI d9)]) rfl ?_
      refine lv_bipush (v := 64) hx hb dX5_putElement_37 (by decide) ?_
      refine lv_isub hx hb dX5_putElement_39 ?_
      refine lv_topi (fun x44 e45 => ?_)
      obtain rfl : x44 = nI (d9 - 64) := e45.trans (nI_subN (a := 64) (b := d9) (by omega))
      refine lv_istore (lv' := [(6, .int (nI (d9 - 64))), (4, .long (rfV p9)), (3, .int (nI i9)), (1, .long ((J 29) (tp - 1))), (0, .ref (a 5))]) hx hb dX5_putElement_40 hl (by decide) rfl (fun ls hl => ?_)
      rcases VT.ok hv3 with ⟨y8, hq8⟩ | ⟨p8, d8, hp8, hq8, hS8⟩
      · skip
        rw [hq8] at hl
        refine lv_lload_n hx hb dX5_putElement_42 rfl (lv_at hl 3 rfl) ?_
        refine pc_SN (G := G) (As := [.long (nmV y8)]) (rest := []) hx hb hml hown hq hE hX pX0_al hP hS hA hl.1 (s_isRefN l G y8) (gS pw_497 pw_439 pw_440 pw_423) hS_X3_isReference rfl (Nat.le_of_ble_eq_true rfl) dX5_putElement_43 ⟨Nat.le_of_ble_eq_true rfl, Nat.le_of_ble_eq_true rfl⟩ ⟨Nat.le_of_ble_eq_true rfl, Nat.le_of_ble_eq_true rfl⟩ (fun v48 u46 H locs hw47 hP hS => ?_)
        obtain rfl : v48 = some (.int 0) := hw47
        refine W.widen (k := 0) (n := 0) (Nat.le_of_ble_eq_true rfl) (Nat.le_of_ble_eq_true rfl) ?_
        refine W.eq (g2 := F0 m 46 ls [.int 0]) rfl ?_
        refine lv_if_eq (tgt := 77) hx hb dX5_putElement_46 (by decide) (fun c49 => ?_) (fun c49 => absurd c49 (by decide))
        refine lv_aload_n hx hb dX5_putElement_77 rfl (lv_at hl 4 rfl) ?_
        refine c_get (v := .ref (a 28)) (C := RX5) (Tc := TX5) (N := 19) (ci := 4) hx hb hq pin_wsX50 hown hE hP hO 28 (sg_28 G h0 a _ _ _ _ _) rfl 1 (by decide) (hq _ pw_473) (fun _ h9 => h9) rfl dX5_putElement_78 ?_
        refine lv_lload hx hb dX5_putElement_81 (lv_at hl 1 rfl) ?_
        refine lv_iload_n hx hb dX5_putElement_83 rfl (lv_at hl 2 rfl) ?_
        refine lv_lload_n hx hb dX5_putElement_84 rfl (lv_at hl 3 rfl) ?_
        have hO : OKW G h0 a (upd (upd (upd (upd (upd (upd (upd F 18 (nI ba)) 19 (nI (((tp - 1) - 1) - 1))) 20 (nI pc)) 21 (nI (pc + 1))) 23 5) 26 (nI ht)) 26 (nI ht)) (updR (updR (updR (updR (updR R 5 (.ref pq)) 7 (.ref (a sp))) 8 (.ref (a op))) 7 (.ref (a sp))) 8 (.ref (a op))) z34 B J K.1 (fun q99 x99 => x99 = rep G a K q99) w := hO.to rfl
        obtain ⟨_, qr53, hqr54⟩ := hO.2.1 29 _ (sg_29 G h0 a _ _ _ _ _)
        refine pc_V0 (G := G) (As := [.long (rfV p9), .int (nI i9), .long (nmV y8)]) (rest := []) hx hb hml hown hq hE hX pX0_al hP hD hS hA hl.1 (Y_put l G h0 a (upd (upd (upd (upd (upd (upd F 18 (nI ba)) 19 (nI (((tp - 1) - 1) - 1))) 20 (nI pc)) 21 (nI (pc + 1))) 23 5) 26 (nI ht)) (updR (updR (updR R 5 (.ref pq)) 7 (.ref (a sp))) 8 (.ref (a op))) z34 B J K.1 (fun q99 x99 => x99 = rep G a K q99) w p9 n9 d9 sp op ht 2 i9 (nmV y8) hsp (by omega) (by omega) hh59 (by omega) (by omega) (by omega) hO) (gV pw_649 pw_650 pw_651 pw_440 pw_456) hV_X3_put qr53 3 hqr54 rfl rfl rfl (Nat.le_of_ble_eq_true rfl) dX5_putElement_85 ⟨Nat.le_of_ble_eq_true rfl, Nat.le_of_ble_eq_true rfl⟩ ⟨Nat.le_of_ble_eq_true rfl, Nat.le_of_ble_eq_true rfl⟩ (fun v52 u50 H locs hw51 hP hD hS => ?_)
        obtain ⟨w, J55⟩ := u50
        obtain ⟨hw51, h56, h57, h58, hO⟩ := hw51
        have h56 : J55 sp = upV (J sp) (p9 + 2 + i9) (nmV y8) := h56
        have h57 : J55 29 = (J 29) := h57
        have h58 : J55 op = J op := h58
        obtain rfl : v52 = none := hw51
        have hO : OKP G h0 a (upd (upd (upd (upd (upd (upd F 18 (nI ba)) 19 (nI (((tp - 1) - 1) - 1))) 20 (nI pc)) 21 (nI (pc + 1))) 23 5) 26 (nI ht)) (updR (updR (updR R 5 (.ref pq)) 7 (.ref (a sp))) 8 (.ref (a op))) z34 B J55 K w := hO.to rfl
        refine W.widen (k := 0) (n := 0) (Nat.le_of_ble_eq_true rfl) (Nat.le_of_ble_eq_true rfl) ?_
        refine W.eq (g2 := F0 m 88 ls []) rfl ?_
        have hz59 : StQ y (B 19) Sh nn (J55 sp) ht (B 30) (B 16) on j9 ba pc fl (((tp - 1) - 1) - 1) (5 : Int32) (nI (pc + 1)) z34 (J55 29) fl := (by rw [h56, h57]; exact StQ.on1 (MIy.heap hmi (HT.put hht hS9 hf1 (Or.inr ⟨hd6, by omega, rfl, by rw [← hq8]; exact (PrY.elemN hpy hf9 r2 hvc hq8)⟩))) hmo (by rw [hop]; decide) hw4 r5 (fun _ _ => rfl) (Nat.le_refl _) (hz0.trans hZ))
        have hz60 : LoE J55 sp op := (LoE.put hle h56 h58 (by omega))
        have hz61 : (B 33) 5 = nI fl := hfl
        have hz62 : fl ≤ fl ∧ (((tp - 1) - 1) - 1) ≤ 32000 := (by omega)
        have hO : OKP G h0 a (upd (upd (upd (upd (upd (upd F 18 (nI ba)) 19 (nI (((tp - 1) - 1) - 1))) 20 (nI pc)) 21 (nI (pc + 1))) 23 (5 : Int32)) 26 (nI ht)) (updR (updR (updR R 5 (.ref pq)) 7 (.ref (a sp))) 8 (.ref (a op))) z34 (updA (updA B 32 (B 32)) 33 (B 33)) J55 K w := hO.to rfl
        exact W.vret hx hb hr (fun t99 ht99 hW99 => ⟨⟨_, (w, ((((tp - 1) - 1) - 1), (5 : Int32), (nI (pc + 1)), z34, J55, (B 33), (B 32), fl)), rfl, ⟨rfl, hz59, hz60, hz61, hz62, hO⟩, by rw [ht99]; exact hP, hD⟩, hS.F ht99⟩) hS.2.2 dX5_putElement_88
      · skip
        rw [hq8] at hl
        obtain ⟨n8, hh18, hh28, hh38, hh48, hh58, hh68, hh78⟩ := HT.hd hht hS8
        refine lv_lload_n hx hb dX5_putElement_42 rfl (lv_at hl 3 rfl) ?_
        refine pc_SN (G := G) (As := [.long (rfV p8)]) (rest := []) hx hb hml hown hq hE hX pX0_al hP hS hA hl.1 (s_isRefR l G p8) (gS pw_497 pw_439 pw_440 pw_423) hS_X3_isReference rfl (Nat.le_of_ble_eq_true rfl) dX5_putElement_43 ⟨Nat.le_of_ble_eq_true rfl, Nat.le_of_ble_eq_true rfl⟩ ⟨Nat.le_of_ble_eq_true rfl, Nat.le_of_ble_eq_true rfl⟩ (fun v65 u63 H locs hw64 hP hS => ?_)
        obtain rfl : v65 = some (.int 1) := hw64
        refine W.widen (k := 0) (n := 0) (Nat.le_of_ble_eq_true rfl) (Nat.le_of_ble_eq_true rfl) ?_
        refine W.eq (g2 := F0 m 46 ls [.int 1]) rfl ?_
        refine lv_if_eq (tgt := 77) hx hb dX5_putElement_46 (by decide) (fun c66 => absurd c66 (by decide)) (fun c66 => ?_)
        refine lv_aload_n hx hb dX5_putElement_49 rfl (lv_at hl 4 rfl) ?_
        refine c_get (v := .ref pq) (C := RX5) (Tc := TX5) (N := 19) (ci := 4) hx hb hq pin_wsX50 hown hE hP hO 28 (sg_28 G h0 a _ _ _ _ _) rfl 8 (by decide) (hq _ pw_486) (fun _ h9 => h9) rfl dX5_putElement_50 ?_
        refine lv_aload_n hx hb dX5_putElement_53 rfl (lv_at hl 4 rfl) ?_
        refine c_get (v := .ref (a 28)) (C := RX5) (Tc := TX5) (N := 19) (ci := 4) hx hb hq pin_wsX50 hown hE hP hO 28 (sg_28 G h0 a _ _ _ _ _) rfl 1 (by decide) (hq _ pw_473) (fun _ h9 => h9) rfl dX5_putElement_54 ?_
        refine lv_lload_n hx hb dX5_putElement_57 rfl (lv_at hl 3 rfl) ?_
        have hO : OKW G h0 a (upd (upd (upd (upd (upd (upd (upd F 18 (nI ba)) 19 (nI (((tp - 1) - 1) - 1))) 20 (nI pc)) 21 (nI (pc + 1))) 23 5) 26 (nI ht)) 26 (nI ht)) (updR (updR (updR (updR (updR R 5 (.ref pq)) 7 (.ref (a sp))) 8 (.ref (a op))) 7 (.ref (a sp))) 8 (.ref (a op))) z34 B J K.1 (fun q99 x99 => x99 = rep G a K q99) w := hO.to rfl
        obtain ⟨_, qr70, hqr71⟩ := hO.2.1 29 _ (sg_29 G h0 a _ _ _ _ _)
        refine pc_V0 (G := G) (As := [.long (rfV p8)]) (rest := [.ref pq]) hx hb hml hown hq hE hX pX0_al hP hD hS hA hl.1 (Y_typeOf l G h0 a (upd (upd (upd (upd (upd (upd F 18 (nI ba)) 19 (nI (((tp - 1) - 1) - 1))) 20 (nI pc)) 21 (nI (pc + 1))) 23 5) 26 (nI ht)) (updR (updR (updR R 5 (.ref pq)) 7 (.ref (a sp))) 8 (.ref (a op))) z34 B J K.1 (fun q99 x99 => x99 = rep G a K q99) w p8 n8 d8 sp op ht hsp (by omega) (by omega) hh58 hO) (gV pw_489 pw_490 pw_491 pw_440 pw_441) hV_X3_typeOf qr70 3 hqr71 rfl rfl rfl (Nat.le_of_ble_eq_true rfl) dX5_putElement_58 ⟨Nat.le_of_ble_eq_true rfl, Nat.le_of_ble_eq_true rfl⟩ ⟨Nat.le_of_ble_eq_true rfl, Nat.le_of_ble_eq_true rfl⟩ (fun v69 u67 H locs hw68 hP hD hS => ?_)
        obtain ⟨w, _⟩ := u67
        obtain ⟨hw68, hO⟩ := hw68
        obtain rfl : v69 = some (.int (nI d8)) := hw68
        have hO : OKP G h0 a (upd (upd (upd (upd (upd (upd F 18 (nI ba)) 19 (nI (((tp - 1) - 1) - 1))) 20 (nI pc)) 21 (nI (pc + 1))) 23 5) 26 (nI ht)) (updR (updR (updR R 5 (.ref pq)) 7 (.ref (a sp))) 8 (.ref (a op))) z34 B J K w := hO.to rfl
        refine W.widen (k := 0) (n := 0) (Nat.le_of_ble_eq_true rfl) (Nat.le_of_ble_eq_true rfl) ?_
        refine W.eq (g2 := F0 m 61 ls [.int (nI d8), .ref pq]) rfl ?_
        refine lv_iload hx hb dX5_putElement_61 (lv_at hl 0 rfl) ?_
        have hO : OKP G h0 a (upd (upd (upd (upd (upd (upd F 18 (nI ba)) 19 (nI (((tp - 1) - 1) - 1))) 20 (nI pc)) 21 (nI (pc + 1))) 23 5) 26 (nI ht)) (updR (updR (updR R 5 (.ref pq)) 7 (.ref (a sp))) 8 (.ref (a op))) z34 B J K w := hO.to rfl
        obtain ⟨qr75, hqr76⟩ := p_recv hO (by rw [hp1]; decide) (rep_7 hp1)
        refine pc_V0 (G := G) (As := [.int (nI d8), .int (nI (d9 - 64))]) (rest := []) hx hb hml hown hq hE hX pX0_al hP hD hS hA hl.1 (Y_fits l G h0 a (upd (upd (upd (upd (upd (upd F 18 (nI ba)) 19 (nI (((tp - 1) - 1) - 1))) 20 (nI pc)) 21 (nI (pc + 1))) 23 5) 26 (nI ht)) (updR (updR (updR R 5 (.ref pq)) 7 (.ref (a sp))) 8 (.ref (a op))) z34 B J K w pq dr ml nd d8 (d9 - 64) g hps.1 hps.2.1 (by omega) hO) (gV pw_644 pw_112 pw_113 pw_106 pw_103) hV_X9_fits qr75 6 hqr76 rfl rfl rfl (Nat.le_of_ble_eq_true rfl) dX5_putElement_63 ⟨Nat.le_of_ble_eq_true rfl, Nat.le_of_ble_eq_true rfl⟩ ⟨Nat.le_of_ble_eq_true rfl, Nat.le_of_ble_eq_true rfl⟩ (fun v74 u72 H locs hw73 hP hD hS => ?_)
        obtain ⟨w, r77⟩ := u72
        obtain ⟨hw73, h78, h79, hO⟩ := hw73
        have h78 : r77 ≤ 1 := h78
        have h79 : r77 = 1 ↔ fitK (btK K dr) nd d8 (d9 - 64) := h79
        obtain rfl : v74 = some (.int (nI r77)) := hw73
        have hO : OKP G h0 a (upd (upd (upd (upd (upd (upd F 18 (nI ba)) 19 (nI (((tp - 1) - 1) - 1))) 20 (nI pc)) 21 (nI (pc + 1))) 23 5) 26 (nI ht)) (updR (updR (updR R 5 (.ref pq)) 7 (.ref (a sp))) 8 (.ref (a op))) z34 B J K w := hO.to rfl
        refine W.widen (k := 0) (n := 0) (Nat.le_of_ble_eq_true rfl) (Nat.le_of_ble_eq_true rfl) ?_
        refine W.eq (g2 := F0 m 66 ls [.int (nI r77)]) rfl ?_
        refine lv_if_ne (tgt := 77) hx hb dX5_putElement_66 (by decide) (fun c80 => ?_) (fun c80 => ?_)
        · have n81 : ¬ (r77 = 0) := fun h9 => c80 ((nI_eq (a := r77) (b := 0) (by omega) (by omega)).mpr h9)
          have hft := h79.mp (by omega)
          refine lv_aload_n hx hb dX5_putElement_77 rfl (lv_at hl 4 rfl) ?_
          refine c_get (v := .ref (a 28)) (C := RX5) (Tc := TX5) (N := 19) (ci := 4) hx hb hq pin_wsX50 hown hE hP hO 28 (sg_28 G h0 a _ _ _ _ _) rfl 1 (by decide) (hq _ pw_473) (fun _ h9 => h9) rfl dX5_putElement_78 ?_
          refine lv_lload hx hb dX5_putElement_81 (lv_at hl 1 rfl) ?_
          refine lv_iload_n hx hb dX5_putElement_83 rfl (lv_at hl 2 rfl) ?_
          refine lv_lload_n hx hb dX5_putElement_84 rfl (lv_at hl 3 rfl) ?_
          have hO : OKW G h0 a (upd (upd (upd (upd (upd (upd (upd F 18 (nI ba)) 19 (nI (((tp - 1) - 1) - 1))) 20 (nI pc)) 21 (nI (pc + 1))) 23 5) 26 (nI ht)) 26 (nI ht)) (updR (updR (updR (updR (updR R 5 (.ref pq)) 7 (.ref (a sp))) 8 (.ref (a op))) 7 (.ref (a sp))) 8 (.ref (a op))) z34 B J K.1 (fun q99 x99 => x99 = rep G a K q99) w := hO.to rfl
          obtain ⟨_, qr85, hqr86⟩ := hO.2.1 29 _ (sg_29 G h0 a _ _ _ _ _)
          refine pc_V0 (G := G) (As := [.long (rfV p9), .int (nI i9), .long (rfV p8)]) (rest := []) hx hb hml hown hq hE hX pX0_al hP hD hS hA hl.1 (Y_put l G h0 a (upd (upd (upd (upd (upd (upd F 18 (nI ba)) 19 (nI (((tp - 1) - 1) - 1))) 20 (nI pc)) 21 (nI (pc + 1))) 23 5) 26 (nI ht)) (updR (updR (updR R 5 (.ref pq)) 7 (.ref (a sp))) 8 (.ref (a op))) z34 B J K.1 (fun q99 x99 => x99 = rep G a K q99) w p9 n9 d9 sp op ht 2 i9 (rfV p8) hsp (by omega) (by omega) hh59 (by omega) (by omega) (by omega) hO) (gV pw_649 pw_650 pw_651 pw_440 pw_456) hV_X3_put qr85 3 hqr86 rfl rfl rfl (Nat.le_of_ble_eq_true rfl) dX5_putElement_85 ⟨Nat.le_of_ble_eq_true rfl, Nat.le_of_ble_eq_true rfl⟩ ⟨Nat.le_of_ble_eq_true rfl, Nat.le_of_ble_eq_true rfl⟩ (fun v84 u82 H locs hw83 hP hD hS => ?_)
          obtain ⟨w, J87⟩ := u82
          obtain ⟨hw83, h88, h89, h90, hO⟩ := hw83
          have h88 : J87 sp = upV (J sp) (p9 + 2 + i9) (rfV p8) := h88
          have h89 : J87 29 = (J 29) := h89
          have h90 : J87 op = J op := h90
          obtain rfl : v84 = none := hw83
          have hO : OKP G h0 a (upd (upd (upd (upd (upd (upd F 18 (nI ba)) 19 (nI (((tp - 1) - 1) - 1))) 20 (nI pc)) 21 (nI (pc + 1))) 23 5) 26 (nI ht)) (updR (updR (updR R 5 (.ref pq)) 7 (.ref (a sp))) 8 (.ref (a op))) z34 B J87 K w := hO.to rfl
          refine W.widen (k := 0) (n := 0) (Nat.le_of_ble_eq_true rfl) (Nat.le_of_ble_eq_true rfl) ?_
          refine W.eq (g2 := F0 m 88 ls []) rfl ?_
          have hz91 : StQ y (B 19) Sh nn (J87 sp) ht (B 30) (B 16) on j9 ba pc fl (((tp - 1) - 1) - 1) (5 : Int32) (nI (pc + 1)) z34 (J87 29) fl := (by rw [h88, h89]; exact StQ.on1 (MIy.heap hmi (HT.put hht hS9 hf1 (Or.inr ⟨hd6, by omega, rfl, by rw [← hq8]; exact (PrY.elem hpy hht hmi.2.1 hf9 r2 hvc hq8 hp8 hS8 hft)⟩))) hmo (by rw [hop]; decide) hw4 r5 (fun _ _ => rfl) (Nat.le_refl _) (hz0.trans hZ))
          have hz92 : LoE J87 sp op := (LoE.put hle h88 h90 (by omega))
          have hz93 : (B 33) 5 = nI fl := hfl
          have hz94 : fl ≤ fl ∧ (((tp - 1) - 1) - 1) ≤ 32000 := (by omega)
          have hO : OKP G h0 a (upd (upd (upd (upd (upd (upd F 18 (nI ba)) 19 (nI (((tp - 1) - 1) - 1))) 20 (nI pc)) 21 (nI (pc + 1))) 23 (5 : Int32)) 26 (nI ht)) (updR (updR (updR R 5 (.ref pq)) 7 (.ref (a sp))) 8 (.ref (a op))) z34 (updA (updA B 32 (B 32)) 33 (B 33)) J87 K w := hO.to rfl
          exact W.vret hx hb hr (fun t99 ht99 hW99 => ⟨⟨_, (w, ((((tp - 1) - 1) - 1), (5 : Int32), (nI (pc + 1)), z34, J87, (B 33), (B 32), fl)), rfl, ⟨rfl, hz91, hz92, hz93, hz94, hO⟩, by rw [ht99]; exact hP, hD⟩, hS.F ht99⟩) hS.2.2 dX5_putElement_88
        · have n95 : r77 = 0 := (nI_eq (a := r77) (b := 0) (by omega) (by omega)).mp c80
          refine lv_aload_n hx hb dX5_putElement_69 rfl (lv_at hl 4 rfl) ?_
          refine lv_iconst (v := 5) hx hb dX5_putElement_70 (by decide) ?_
          have hO : OKW G h0 a (upd (upd (upd (upd (upd (upd F 18 (nI ba)) 19 (nI (((tp - 1) - 1) - 1))) 20 (nI pc)) 21 (nI (pc + 1))) 23 5) 26 (nI ht)) (updR (updR (updR R 5 (.ref pq)) 7 (.ref (a sp))) 8 (.ref (a op))) z34 B J K.1 (fun q99 x99 => x99 = rep G a K q99) w := hO.to rfl
          obtain ⟨_, qr99, hqr100⟩ := hO.2.1 28 _ (sg_28 G h0 a _ _ _ _ _)
          refine pc_V0 (G := G) (As := [.int (nI 5)]) (rest := []) hx hb hml hown hq hE hX pX0_al hP hD hS hA hl.1 (Y_raise l G h0 a (upd (upd (upd (upd (upd (upd F 18 (nI ba)) 19 (nI (((tp - 1) - 1) - 1))) 20 (nI pc)) 21 (nI (pc + 1))) 23 5) 26 (nI ht)) (updR (updR (updR R 5 (.ref pq)) 7 (.ref (a sp))) 8 (.ref (a op))) z34 B J K.1 (fun q99 x99 => x99 = rep G a K q99) w 5 (by omega) hO) (gV pw_570 pw_571 pw_572 pw_539 pw_561) hV_X5_raise qr99 4 hqr100 rfl rfl rfl (Nat.le_of_ble_eq_true rfl) dX5_putElement_71 ⟨Nat.le_of_ble_eq_true rfl, Nat.le_of_ble_eq_true rfl⟩ ⟨Nat.le_of_ble_eq_true rfl, Nat.le_of_ble_eq_true rfl⟩ (fun v98 u96 H locs hw97 hP hD hS => ?_)
          obtain ⟨w, _⟩ := u96
          obtain ⟨hw97, hO⟩ := hw97
          obtain rfl : v98 = none := hw97
          have hO : OKP G h0 a (upd (upd (upd (upd (upd (upd F 18 (nI ba)) 19 (nI (((tp - 1) - 1) - 1))) 20 (nI pc)) 21 (nI (pc + 1))) 23 5) 26 (nI ht)) (updR (updR (updR R 5 (.ref pq)) 7 (.ref (a sp))) 8 (.ref (a op))) (rfV 5) B J K w := hO.to rfl
          refine W.widen (k := 0) (n := 0) (Nat.le_of_ble_eq_true rfl) (Nat.le_of_ble_eq_true rfl) ?_
          refine W.eq (g2 := F0 m 74 ls []) rfl ?_
          refine lv_goto (tgt := 88) hx hb dX5_putElement_74 (by decide) ?_
          have hz101 : StQ y (B 19) Sh nn (J sp) ht (B 30) (B 16) on j9 ba pc fl (((tp - 1) - 1) - 1) (5 : Int32) (nI (pc + 1)) (rfV 5) (J 29) fl := (StQ.thrown hmi hmo (by rw [hop]; decide) (RaO.own hmi.2.1 (by omega) (by omega)) (fun _ _ => rfl) (Nat.le_refl _))
          have hz102 : LoE J sp op := hle
          have hz103 : (B 33) 5 = nI fl := hfl
          have hz104 : fl ≤ fl ∧ (((tp - 1) - 1) - 1) ≤ 32000 := (by omega)
          have hO : OKP G h0 a (upd (upd (upd (upd (upd (upd F 18 (nI ba)) 19 (nI (((tp - 1) - 1) - 1))) 20 (nI pc)) 21 (nI (pc + 1))) 23 (5 : Int32)) 26 (nI ht)) (updR (updR (updR R 5 (.ref pq)) 7 (.ref (a sp))) 8 (.ref (a op))) (rfV 5) (updA (updA B 32 (B 32)) 33 (B 33)) J K w := hO.to rfl
          exact W.vret hx hb hr (fun t99 ht99 hW99 => ⟨⟨_, (w, ((((tp - 1) - 1) - 1), (5 : Int32), (nI (pc + 1)), (rfV 5), J, (B 33), (B 32), fl)), rfl, ⟨rfl, hz101, hz102, hz103, hz104, hO⟩, by rw [ht99]; exact hP, hD⟩, hS.F ht99⟩) hS.2.2 dX5_putElement_88
    · have n105 : r33 = 0 := (nI_eq (a := r33) (b := 0) (by omega) (by omega)).mp c37
      have hz4 := (Or.resolve_left h36 (fun z => by have := z.1; omega)).2
      have hz106 : StQ y (B 19) Sh nn (J sp) ht (B 30) (B 16) on j9 ba pc fl (((tp - 1) - 1) - 1) (5 : Int32) (nI (pc + 1)) z34 (J 29) fl := (StQ.thrown hmi hmo (by rw [hop]; decide) (by rw [hz4]; exact RaO.own hmi.2.1 (by omega) (by omega)) (fun _ _ => rfl) (Nat.le_refl _))
      have hz107 : LoE J sp op := hle
      have hz108 : (B 33) 5 = nI fl := hfl
      have hz109 : fl ≤ fl ∧ (((tp - 1) - 1) - 1) ≤ 32000 := (by omega)
      have hO : OKP G h0 a (upd (upd (upd (upd (upd (upd F 18 (nI ba)) 19 (nI (((tp - 1) - 1) - 1))) 20 (nI pc)) 21 (nI (pc + 1))) 23 (5 : Int32)) 26 (nI ht)) (updR (updR (updR R 5 (.ref pq)) 7 (.ref (a sp))) 8 (.ref (a op))) z34 (updA (updA B 32 (B 32)) 33 (B 33)) J K w := hO.to rfl
      exact W.vret hx hb hr (fun t99 ht99 hW99 => ⟨⟨_, (w, ((((tp - 1) - 1) - 1), (5 : Int32), (nI (pc + 1)), z34, J, (B 33), (B 32), fl)), rfl, ⟨rfl, hz106, hz107, hz108, hz109, hO⟩, by rw [ht99]; exact hP, hD⟩, hS.F ht99⟩) hS.2.2 dX5_putElement_27
set_option maxHeartbeats 2000000 in
set_option maxRecDepth 100000 in
theorem Y_throwN (l : Launch) (G : pT) (h0 : Nat) (a : Nat → Nat) (F : Nat → Int32) (R : Nat → Value) (Z : Int64) (B : Nat → Nat → Int32) (J : Nat → Nat → Int64) (T : Nat → Nat) (Pi : Nat → va_E → Prop) (w : va_W) (hO : OKW G h0 a F R Z B J T Pi w) : PM l G pX0 yX5_throwValue cX5_throwValue 3 none ({ frames := 3, cells := 0, slots := 0, locals := 81 }) [.ref (a 5), .long 0] w (fun (v : Option Value) (u : va_W × (Unit)) => v = none ∧ (OKW G h0 a F R (rfV 1) B J T Pi u.1)) (fun u => u.1) := by
  intro sz
  refine Met.ofW (cc := cX5_throwValue) (maxL := 3) (ret := none) (by decide) rfl ?_
  intro p e s m args below meth c s₁ B9 hml hv
  obtain ⟨rfl, hsz, hP, hD0, hE, hX⟩ := hv
  have hx := B9.exec
  have hb := B9.bytes
  have hr := B9.returns
  have hts := atoms_spec (ws := Cond.code yX5_throwValue cX5_throwValue 3 none :: pw) B9.pre
  have hq : ∀ w ∈ pw, w.before _ s = true := fun w h => hts w (List.mem_cons_of_mem _ h)
  have hown : s.vm.findClass RX5 = some m.cls := findClass_of_methodNamed B9.named
  have hlocks := B9.notSynchronized
  subst hsz
  have hD := hD0.self (sz := s.heap.size)
  have hA : ∀ q : Nat, s.heap.size ≤ q → va_A w s.heap.size q := fun q h => Or.inr h
  generalize va_A w s.heap.size = A at hD hE hA ⊢
  have hS : va_S A s.heap s.heap [] := va_S.rf
  have hl := lv_entry ([.ref (a 5), .long 0]) (n := 3) (Nat.le_of_ble_eq_true rfl)
  rw [lg_entry_eq]
  generalize (lg_sl ([.ref (a 5), .long 0]) ++ List.replicate (3 - (lg_sl ([.ref (a 5), .long 0])).length) Slot.unset).toArray = ls at hl ⊢
  have hl : lv_has ls 3 [(0, .ref (a 5)), (1, .long 0)] := hl
  refine lv_lload_n hx hb dX5_throwValue_0 rfl (lv_at hl 1 rfl) ?_
  refine lv_lconst (v := 0) hx hb dX5_throwValue_1 (by decide) ?_
  refine W.lcmp hx hb dX5_throwValue_2 ?_
  refine lv_topi (fun x1 e2 => ?_)
  obtain rfl : x1 = 0 := e2.trans (by decide)
  refine lv_if_ne (tgt := 14) hx hb dX5_throwValue_3 (by decide) (fun c3 => absurd c3 (by decide)) (fun c3 => ?_)
  refine lv_aload_n hx hb dX5_throwValue_6 rfl (lv_at hl 0 rfl) ?_
  refine lv_iconst (v := 1) hx hb dX5_throwValue_7 (by decide) ?_
  have hO : OKW G h0 a F R Z B J T Pi w := hO.to rfl
  obtain ⟨_, qr7, hqr8⟩ := hO.2.1 28 _ (sg_28 G h0 a _ _ _ _ _)
  refine pc_V0 (G := G) (As := [.int (nI 1)]) (rest := []) hx hb hml hown hq hE hX pX0_al hP hD hS hA hl.1 (Y_raise l G h0 a F R Z B J T Pi w 1 (by omega) hO) (gV pw_570 pw_571 pw_572 pw_539 pw_561) hV_X5_raise qr7 4 hqr8 rfl rfl rfl (Nat.le_of_ble_eq_true rfl) dX5_throwValue_8 ⟨Nat.le_of_ble_eq_true rfl, Nat.le_of_ble_eq_true rfl⟩ ⟨Nat.le_of_ble_eq_true rfl, Nat.le_of_ble_eq_true rfl⟩ (fun v6 u4 H locs hw5 hP hD hS => ?_)
  obtain ⟨w, _⟩ := u4
  obtain ⟨hw5, hO⟩ := hw5
  obtain rfl : v6 = none := hw5
  have hO : OKW G h0 a F R (rfV 1) B J T Pi w := hO.to rfl
  refine W.widen (k := 0) (n := 0) (Nat.le_of_ble_eq_true rfl) (Nat.le_of_ble_eq_true rfl) ?_
  refine W.eq (g2 := F0 m 11 ls []) rfl ?_
  refine lv_goto (tgt := 40) hx hb dX5_throwValue_11 (by decide) ?_
  have hO : OKW G h0 a F R (rfV 1) B J T Pi w := hO.to rfl
  exact W.vret hx hb hr (fun t99 ht99 hW99 => ⟨⟨_, (w, ()), rfl, ⟨rfl, hO⟩, by rw [ht99]; exact hP, hD⟩, hS.F ht99⟩) hS.2.2 dX5_throwValue_40
set_option maxHeartbeats 2000000 in
set_option maxRecDepth 100000 in
theorem Y_throwR (l : Launch) (G : pT) (h0 : Nat) (a : Nat → Nat) (F : Nat → Int32) (R : Nat → Value) (Z : Int64) (B : Nat → Nat → Int32) (J : Nat → Nat → Int64) (T : Nat → Nat) (Pi : Nat → va_E → Prop) (w : va_W) (p9 : Nat) (n9 : Nat) (d9 : Nat) (sp : Nat) (op : Nat) (ht : Nat) (hsp : (sp = 34 ∧ op = 35) ∨ (sp = 35 ∧ op = 34)) (hht : 8 ≤ ht ∧ ht ≤ 3008) (hn9 : 1 ≤ n9 ∧ n9 ≤ 3008 ∧ d9 < 128 ∧ p9 < ht) (hv9 : J sp p9 = hdV n9 d9) (hO : OKW G h0 a (upd F 26 (nI ht)) (updR (updR R 7 (.ref (a sp))) 8 (.ref (a op))) Z B J T Pi w) : PM l G pX0 yX5_throwValue cX5_throwValue 3 none ({ frames := 5, cells := 0, slots := 0, locals := 128 }) [.ref (a 5), .long (rfV p9)] w (fun (v : Option Value) (u : va_W × (Int64)) => v = none ∧ ((64 ≤ d9 ∧ u.2 = rfV 2) ∨ (d9 < 64 ∧ u.2 = rfV p9)) ∧ (OKW G h0 a (upd F 26 (nI ht)) (updR (updR R 7 (.ref (a sp))) 8 (.ref (a op))) u.2 B J T Pi u.1)) (fun u => u.1) := by
  intro sz
  refine Met.ofW (cc := cX5_throwValue) (maxL := 3) (ret := none) (by decide) rfl ?_
  intro p e s m args below meth c s₁ B9 hml hv
  obtain ⟨rfl, hsz, hP, hD0, hE, hX⟩ := hv
  have hx := B9.exec
  have hb := B9.bytes
  have hr := B9.returns
  have hts := atoms_spec (ws := Cond.code yX5_throwValue cX5_throwValue 3 none :: pw) B9.pre
  have hq : ∀ w ∈ pw, w.before _ s = true := fun w h => hts w (List.mem_cons_of_mem _ h)
  have hown : s.vm.findClass RX5 = some m.cls := findClass_of_methodNamed B9.named
  have hlocks := B9.notSynchronized
  subst hsz
  have hD := hD0.self (sz := s.heap.size)
  have hA : ∀ q : Nat, s.heap.size ≤ q → va_A w s.heap.size q := fun q h => Or.inr h
  generalize va_A w s.heap.size = A at hD hE hA ⊢
  have hS : va_S A s.heap s.heap [] := va_S.rf
  have hl := lv_entry ([.ref (a 5), .long (rfV p9)]) (n := 3) (Nat.le_of_ble_eq_true rfl)
  rw [lg_entry_eq]
  generalize (lg_sl ([.ref (a 5), .long (rfV p9)]) ++ List.replicate (3 - (lg_sl ([.ref (a 5), .long (rfV p9)])).length) Slot.unset).toArray = ls at hl ⊢
  have hl : lv_has ls 3 [(0, .ref (a 5)), (1, .long (rfV p9))] := hl
  refine lv_lload_n hx hb dX5_throwValue_0 rfl (lv_at hl 1 rfl) ?_
  refine lv_lconst (v := 0) hx hb dX5_throwValue_1 (by decide) ?_
  refine W.lcmp hx hb dX5_throwValue_2 ?_
  refine lv_topi (fun x1 e2 => ?_)
  refine lv_if_ne (tgt := 14) hx hb dX5_throwValue_3 (by decide) (fun c3 => ?_) (fun c3 => (rfV_n0 (p := p9) ((lg_cmp_eq _ _).mp (e2.symm.trans c3))).elim)
  refine lv_aload_n hx hb dX5_throwValue_14 rfl (lv_at hl 0 rfl) ?_
  refine c_get (v := .ref (a 28)) (C := RX5) (Tc := TX5) (N := 19) (ci := 4) hx hb hq pin_wsX50 hown hE hP hO 28 (sg_28 G h0 a _ _ _ _ _) rfl 1 (by decide) (hq _ pw_473) (fun _ h9 => h9) rfl dX5_throwValue_15 ?_
  refine lv_lload_n hx hb dX5_throwValue_18 rfl (lv_at hl 1 rfl) ?_
  have hO : OKW G h0 a (upd (upd F 26 (nI ht)) 26 (nI ht)) (updR (updR (updR (updR R 7 (.ref (a sp))) 8 (.ref (a op))) 7 (.ref (a sp))) 8 (.ref (a op))) Z B J T Pi w := hO.to rfl
  obtain ⟨_, qr7, hqr8⟩ := hO.2.1 29 _ (sg_29 G h0 a _ _ _ _ _)
  refine pc_V0 (G := G) (As := [.long (rfV p9)]) (rest := []) hx hb hml hown hq hE hX pX0_al hP hD hS hA hl.1 (Y_typeOf l G h0 a (upd F 26 (nI ht)) (updR (updR R 7 (.ref (a sp))) 8 (.ref (a op))) Z B J T Pi w p9 n9 d9 sp op ht hsp (by omega) (by omega) hv9 hO) (gV pw_489 pw_490 pw_491 pw_440 pw_441) hV_X3_typeOf qr7 3 hqr8 rfl rfl rfl (Nat.le_of_ble_eq_true rfl) dX5_throwValue_19 ⟨Nat.le_of_ble_eq_true rfl, Nat.le_of_ble_eq_true rfl⟩ ⟨Nat.le_of_ble_eq_true rfl, Nat.le_of_ble_eq_true rfl⟩ (fun v6 u4 H locs hw5 hP hD hS => ?_)
  obtain ⟨w, _⟩ := u4
  obtain ⟨hw5, hO⟩ := hw5
  obtain rfl : v6 = some (.int (nI d9)) := hw5
  have hO : OKW G h0 a (upd F 26 (nI ht)) (updR (updR R 7 (.ref (a sp))) 8 (.ref (a op))) Z B J T Pi w := hO.to rfl
  refine W.widen (k := 0) (n := 0) (Nat.le_of_ble_eq_true rfl) (Nat.le_of_ble_eq_true rfl) ?_
  refine W.eq (g2 := F0 m 22 ls [.int (nI d9)]) rfl ?_
  refine lv_bipush (v := 64) hx hb dX5_throwValue_22 (by decide) ?_
  refine lv_icmp_lt (tgt := 35) hx hb dX5_throwValue_24 (by decide) (fun c9 => ?_) (fun c9 => ?_)
  · have n10 : d9 < 64 := (nI_ltI (a := d9) (b := 64) (by omega) (by omega)).mp c9
    refine lv_aload_n hx hb dX5_throwValue_35 rfl (lv_at hl 0 rfl) ?_
    refine lv_lload_n hx hb dX5_throwValue_36 rfl (lv_at hl 1 rfl) ?_
    refine c_put (v := .long (rfV p9)) (ty := .long) (C := RX5) (Tc := TX5) (N := 19) (ci := 4) hx hb hq pin_wsX50 tyX5 tyX5_ok nmX5 hown hE hP hD hS hO 28 (sg_28 G h0 a _ _ _ _ _) rfl 14 (by decide) (hq _ pw_485) (fun _ h9 => h9) rfl (by decide +kernel) rfl rfl (Nat.le_of_ble_eq_true rfl) (sz G h0 a _ _ _ _ _ (rfV p9)) dX5_throwValue_37 (fun H locs w hP hD hS hO => ?_)
    have hz11 : (64 ≤ d9 ∧ (rfV p9) = rfV 2) ∨ (d9 < 64 ∧ (rfV p9) = rfV p9) := (Or.inr ⟨by omega, rfl⟩)
    have hO : OKW G h0 a (upd F 26 (nI ht)) (updR (updR R 7 (.ref (a sp))) 8 (.ref (a op))) (rfV p9) B J T Pi w := hO.to rfl
    exact W.vret hx hb hr (fun t99 ht99 hW99 => ⟨⟨_, (w, (rfV p9)), rfl, ⟨rfl, hz11, hO⟩, by rw [ht99]; exact hP, hD⟩, hS.F ht99⟩) hS.2.2 dX5_throwValue_40
  · have n12 : ¬ (d9 < 64) := fun h9 => c9 ((nI_ltI (a := d9) (b := 64) (by omega) (by omega)).mpr h9)
    refine lv_aload_n hx hb dX5_throwValue_27 rfl (lv_at hl 0 rfl) ?_
    refine lv_iconst (v := 2) hx hb dX5_throwValue_28 (by decide) ?_
    have hO : OKW G h0 a (upd F 26 (nI ht)) (updR (updR R 7 (.ref (a sp))) 8 (.ref (a op))) Z B J T Pi w := hO.to rfl
    obtain ⟨_, qr16, hqr17⟩ := hO.2.1 28 _ (sg_28 G h0 a _ _ _ _ _)
    refine pc_V0 (G := G) (As := [.int (nI 2)]) (rest := []) hx hb hml hown hq hE hX pX0_al hP hD hS hA hl.1 (Y_raise l G h0 a (upd F 26 (nI ht)) (updR (updR R 7 (.ref (a sp))) 8 (.ref (a op))) Z B J T Pi w 2 (by omega) hO) (gV pw_570 pw_571 pw_572 pw_539 pw_561) hV_X5_raise qr16 4 hqr17 rfl rfl rfl (Nat.le_of_ble_eq_true rfl) dX5_throwValue_29 ⟨Nat.le_of_ble_eq_true rfl, Nat.le_of_ble_eq_true rfl⟩ ⟨Nat.le_of_ble_eq_true rfl, Nat.le_of_ble_eq_true rfl⟩ (fun v15 u13 H locs hw14 hP hD hS => ?_)
    obtain ⟨w, _⟩ := u13
    obtain ⟨hw14, hO⟩ := hw14
    obtain rfl : v15 = none := hw14
    have hO : OKW G h0 a (upd F 26 (nI ht)) (updR (updR R 7 (.ref (a sp))) 8 (.ref (a op))) (rfV 2) B J T Pi w := hO.to rfl
    refine W.widen (k := 0) (n := 0) (Nat.le_of_ble_eq_true rfl) (Nat.le_of_ble_eq_true rfl) ?_
    refine W.eq (g2 := F0 m 32 ls []) rfl ?_
    refine lv_goto (tgt := 40) hx hb dX5_throwValue_32 (by decide) ?_
    have hz18 : (64 ≤ d9 ∧ (rfV 2) = rfV 2) ∨ (d9 < 64 ∧ (rfV 2) = rfV p9) := (Or.inl ⟨by omega, rfl⟩)
    have hO : OKW G h0 a (upd F 26 (nI ht)) (updR (updR R 7 (.ref (a sp))) 8 (.ref (a op))) (rfV 2) B J T Pi w := hO.to rfl
    exact W.vret hx hb hr (fun t99 ht99 hW99 => ⟨⟨_, (w, (rfV 2)), rfl, ⟨rfl, hz18, hO⟩, by rw [ht99]; exact hP, hD⟩, hS.F ht99⟩) hS.2.2 dX5_throwValue_40

theorem WkI.start {y : TY} {it : Nat → Nat} {J J1 : Nat → Nat → Int64} {f O L R H : Nat → Int32} {sp op m i fl fl1 tp1 ba1 on1 : Nat} {K : PK} {B : Nat → Nat → Int32} {dr nd nm cs rg : Nat} {en1 nx1 : Int32} {mo1 : Option Nat} (q : ¬ en1 = 5 ∨ (en1 = 5 ∧ fl = fl1 + 1 ∧ tp1 = ysl y i ∧ nx1 = nI (ylo y i) ∧ ba1 = 0 ∧ on1 = 1 ∧ mo1 = some (it i))) (hpy : PrY y K B dr nd nm it cs rg) (hm : MOy y O L R H i) (hmx : MnX y K dr nd m i) (hle : LoE J sp op) (hle1 : LoE J1 sp op) (hr : 8 + (1 + yfd y m) ≤ 3008) (e0 : J1 sp 8 = hdV (1 + yfd y m) m) (e1 : ∀ k : Nat, 1 ≤ k → k < 1 + yfd y m → J1 sp (8 + k) = 0) (e2 : ∀ x : Nat, x < 8 → J1 sp x = J sp x) (hst : J1 29 0 = rfV 8) (hfl : fl ≤ 20000) : WkI y it O H f J1 0 fl1 tp1 sp op (8 + (1 + yfd y m)) en1 nx1 0 ba1 on1 mo1 := by
  rcases q with q | ⟨q1, q2, q3, q4, q5, q6, q7⟩
  · exact Or.inl q
  · subst q3; subst q5; subst q6
    obtain ⟨m1, m2, m3, m4, m5, m6, m7, m8⟩ := hmx
    have hi := (hpy.2.2.2.2.1 m i 37 m3 m6).1
    have hht := HT.made (n := 1 + yfd y m) (d := m) (HT.start (y := y) (nn := fun _ => 0) hle) (Or.inl ⟨m2, rfl, fun k hk => hpy.2.2.2.2.2.2.1 m k hk⟩) (by omega) hr e0 e1 e2
    refine Or.inr ⟨q1, rfl, hle1, _, _, i, ylo y i, q7, q4, MIy.start hht hpy m3 hm hi m7 m8 hst m2 (hpy.2.1 i hi).2.2.2.2.2.2.2.2.2.2, ?_⟩
    have w := wt_le (O := O) (pc := ylo y i)
    show 20000 * fl1 + 0 + wt O (ylo y i) + 0 + 1 ≤ 400000000
    omega
set_option maxHeartbeats 60000000 in
set_option maxRecDepth 100000 in
theorem Y_start (l : Launch) (G : pT) (h0 : Nat) (a : Nat → Nat) (F : Nat → Int32) (R : Nat → Value) (Z : Int64) (B : Nat → Nat → Int32) (J : Nat → Nat → Int64) (K : PK) (w : va_W) (y : TY) (sp : Nat) (op : Nat) (fl : Nat) (c9 : Nat) (m9 : Nat) (k9 : Nat) (pq : Nat) (dr : Nat) (ml : Nat) (nd : Nat) (nm : Nat) (cp : Nat) (it : Nat → Nat) (s9 : Nat) (g : Nat → Nat → Nat) (rk : Nat → Nat) (cs : Nat) (rg : Nat) (hsp : (sp = 34 ∧ op = 35) ∨ (sp = 35 ∧ op = 34)) (hflb : fl ≤ 20000) (hc9 : c9 ≤ 3000 ∧ cs ≤ 10000 ∧ rg ≤ 625) (hle : LoE J sp op) (hmx : MnX y K dr nd m9 k9) (hwp : WPr G K g) (hps : PgT G K g (a 1) pq dr ml nd nm cp it s9) (hrk : RkO K rk) (hpy : PrY y K B dr nd nm it cs rg) (hcs9 : cs ≤ 10000) (hO : OKP G h0 a (upd (upd F 5 (nI cs)) 6 (nI rg)) (updR (updR R 7 (.ref (a sp))) 8 (.ref (a op))) Z B J K w) : PM l G pX0 yX5_start cX5_start 4 none ({ frames := 8, cells := 0, slots := 0, locals := 193 }) [.ref (a 5), .ref pq, .int (nI fl), .int (nI c9)] w (fun (v : Option Value) (u : va_W × (Nat × Nat × Nat × Nat × Nat × Nat × Nat × Int32 × Int32 × Int32 × Int32 × (Nat → Nat → Int64) × Option Nat × (Nat → Int32) × (Nat → Int32))) => v = none ∧ (WkI y it (B 16) (B 19) u.2.2.2.2.2.2.2.2.2.2.2.2.2.2.2 u.2.2.2.2.2.2.2.2.2.2.2.2.1 0 u.2.2.2.2.1 u.2.1 u.2.2.2.2.2.1 u.2.2.2.2.2.2.1 u.2.2.2.2.2.2.2.1 u.2.2.2.2.2.2.2.2.1 u.2.2.2.2.2.2.2.2.2.2.1 0 u.2.2.1 u.2.2.2.1 u.2.2.2.2.2.2.2.2.2.2.2.2.2.1) ∧ (u.2.1 ≤ 32000 ∧ u.2.2.1 ≤ 32000 ∧ u.2.2.2.1 ≤ 100 ∧ (8 ≤ u.2.2.2.2.2.2.2.1 ∧ u.2.2.2.2.2.2.2.1 ≤ 3008) ∧ u.2.2.2.2.1 ≤ 20000) ∧ (u.2.2.2.2.2.2.2.2.2.2.2.2.2.2.1 5 = nI u.2.2.2.2.1) ∧ ((u.2.2.2.2.2.1 = 34 ∧ u.2.2.2.2.2.2.1 = 35) ∨ (u.2.2.2.2.2.1 = 35 ∧ u.2.2.2.2.2.2.1 = 34)) ∧ (LoE u.2.2.2.2.2.2.2.2.2.2.2.2.1 u.2.2.2.2.2.1 u.2.2.2.2.2.2.1) ∧ (OKP G h0 a (upd (upd (upd (upd (upd (upd (upd (upd (upd (upd (upd (upd F 5 (nI cs)) 6 (nI rg)) 18 (nI u.2.2.1)) 19 (nI u.2.1)) 20 u.2.2.2.2.2.2.2.2.2.2.1) 21 u.2.2.2.2.2.2.2.2.2.1) 22 (nI u.2.2.2.1)) 23 u.2.2.2.2.2.2.2.2.1) 24 0) 26 (nI u.2.2.2.2.2.2.2.1)) 27 u.2.2.2.2.2.2.2.2.2.2.2.1) 28 (nI (8 + c9))) (updR (updR (updR (updR R 5 (.ref pq)) 6 (va_rf u.2.2.2.2.2.2.2.2.2.2.2.2.2.1)) 7 (.ref (a u.2.2.2.2.2.1))) 8 (.ref (a u.2.2.2.2.2.2.1))) 0 (updA (updA B 30 u.2.2.2.2.2.2.2.2.2.2.2.2.2.2.2) 33 u.2.2.2.2.2.2.2.2.2.2.2.2.2.2.1) u.2.2.2.2.2.2.2.2.2.2.2.2.1 K u.1)) (fun u => u.1) := by
  intro sz
  refine Met.ofW (cc := cX5_start) (maxL := 4) (ret := none) (by decide) rfl ?_
  intro p e s m args below meth c s₁ B9 hml hv
  obtain ⟨rfl, hsz, hP, hD0, hE, hX⟩ := hv
  have hx := B9.exec
  have hb := B9.bytes
  have hr := B9.returns
  have hts := atoms_spec (ws := Cond.code yX5_start cX5_start 4 none :: pw) B9.pre
  have hq : ∀ w ∈ pw, w.before _ s = true := fun w h => hts w (List.mem_cons_of_mem _ h)
  have hown : s.vm.findClass RX5 = some m.cls := findClass_of_methodNamed B9.named
  have hlocks := B9.notSynchronized
  subst hsz
  have hD := hD0.self (sz := s.heap.size)
  have hA : ∀ q : Nat, s.heap.size ≤ q → va_A w s.heap.size q := fun q h => Or.inr h
  generalize va_A w s.heap.size = A at hD hE hA ⊢
  have hS : va_S A s.heap s.heap [] := va_S.rf
  have hl := lv_entry ([.ref (a 5), .ref pq, .int (nI fl), .int (nI c9)]) (n := 4) (Nat.le_of_ble_eq_true rfl)
  rw [lg_entry_eq]
  generalize (lg_sl ([.ref (a 5), .ref pq, .int (nI fl), .int (nI c9)]) ++ List.replicate (4 - (lg_sl ([.ref (a 5), .ref pq, .int (nI fl), .int (nI c9)])).length) Slot.unset).toArray = ls at hl ⊢
  have hl : lv_has ls 4 [(0, .ref (a 5)), (1, .ref pq), (2, .int (nI fl)), (3, .int (nI c9))] := hl
  have hpg := hps.1
  have hp1 := hpg.1
  have hp2 := hpg.2.1
  have hp3 := hpg.2.2.1
  have hp4 := hpg.2.2.2.1
  have hp5 := hpg.2.2.2.2.1
  have hp6 := hpg.2.2.2.2.2.1
  have hp8 := hpg.2.2.2.2.2.2.2.1
  have hp9 := hpg.2.2.2.2.2.2.2.2
  have hmxc := hmx
  obtain ⟨hm1, hm2, hm3, ⟨q7, hm4, hm5⟩, hm6, hm7, hm8, hm9⟩ := hmxc
  refine lv_aload_n hx hb dX5_start_0 rfl (lv_at hl 0 rfl) ?_
  have hO : OKW G h0 a (upd (upd F 5 (nI cs)) 6 (nI rg)) (updR (updR R 7 (.ref (a sp))) 8 (.ref (a op))) Z B J K.1 (fun q99 x99 => x99 = rep G a K q99) w := hO.to rfl
  obtain ⟨_, qr4, hqr5⟩ := hO.2.1 28 _ (sg_28 G h0 a _ _ _ _ _)
  refine pc_V0 (G := G) (As := []) (rest := []) hx hb hml hown hq hE hX pX0_al hP hD hS hA hl.1 (M_clear l G h0 a (upd (upd F 5 (nI cs)) 6 (nI rg)) (updR (updR R 7 (.ref (a sp))) 8 (.ref (a op))) Z B J K.1 (fun q99 x99 => x99 = rep G a K q99) w hO) (gV pw_578 pw_579 pw_580 pw_539 pw_500) hV_X5_clear qr4 4 hqr5 rfl rfl rfl (Nat.le_of_ble_eq_true rfl) dX5_start_1 ⟨Nat.le_of_ble_eq_true rfl, Nat.le_of_ble_eq_true rfl⟩ ⟨Nat.le_of_ble_eq_true rfl, Nat.le_of_ble_eq_true rfl⟩ (fun v3 u1 H locs hw2 hP hD hS => ?_)
  obtain ⟨w, f6⟩ := u1
  obtain ⟨hw2, hO⟩ := hw2
  obtain rfl : v3 = none := hw2
  have hO : OKP G h0 a (upd (upd (upd (upd (upd (upd (upd F 5 (nI cs)) 6 (nI rg)) 18 0) 19 0) 20 0) 22 0) 24 0) (updR (updR (updR R 6 (.null)) 7 (.ref (a sp))) 8 (.ref (a op))) 0 (updA B 33 f6) J K w := hO.to rfl
  refine W.widen (k := 0) (n := 0) (Nat.le_of_ble_eq_true rfl) (Nat.le_of_ble_eq_true rfl) ?_
  refine W.eq (g2 := F0 m 4 ls []) rfl ?_
  refine lv_aload_n hx hb dX5_start_4 rfl (lv_at hl 0 rfl) ?_
  refine lv_aload_n hx hb dX5_start_5 rfl (lv_at hl 1 rfl) ?_
  refine c_put (v := .ref pq) (ty := (.object "JinjaTongue$Program")) (C := RX5) (Tc := TX5) (N := 19) (ci := 4) hx hb hq pin_wsX50 tyX5 tyX5_ok nmX5 hown hE hP hD hS hO 28 (sg_28 G h0 a _ _ _ _ _) rfl 8 (by decide) (hq _ pw_486) (fun _ h9 => h9) rfl (by decide +kernel) rfl rfl (Nat.le_of_ble_eq_true rfl) (sr_5 G h0 a _ _ _ _ _ (.ref pq)) dX5_start_6 (fun H locs w hP hD hS hO => ?_)
  refine lv_aload_n hx hb dX5_start_9 rfl (lv_at hl 0 rfl) ?_
  refine c_get (v := .ref (a 33)) (C := RX5) (Tc := TX5) (N := 19) (ci := 4) hx hb hq pin_wsX50 hown hE hP hO 28 (sg_28 G h0 a _ _ _ _ _) rfl 7 (by decide) (hq _ pw_478) (fun _ h9 => h9) rfl dX5_start_10 ?_
  refine lv_iconst (v := 5) hx hb dX5_start_13 (by decide) ?_
  refine lv_iload_n hx hb dX5_start_14 rfl (lv_at hl 2 rfl) ?_
  refine c_sti (f := f6) (n := 12) (t0 := 0) hx hb hE hP hD hS hO 36 (sg_36 G h0 a _ _ _ _ _) rfl (by unfold vp_in; decide) (sb_33 G h0 a _ _ _ _ _ _) dX5_start_15 (fun H locs w hP hD hS hO => ?_)
  refine lv_aload_n hx hb dX5_start_16 rfl (lv_at hl 0 rfl) ?_
  refine c_get (v := .ref (a 28)) (C := RX5) (Tc := TX5) (N := 19) (ci := 4) hx hb hq pin_wsX50 hown hE hP hO 28 (sg_28 G h0 a _ _ _ _ _) rfl 1 (by decide) (hq _ pw_473) (fun _ h9 => h9) rfl dX5_start_17 ?_
  refine lv_iload_n hx hb dX5_start_20 rfl (lv_at hl 3 rfl) ?_
  have hO : OKW G h0 a (upd (upd (upd (upd (upd (upd (upd F 5 (nI cs)) 6 (nI rg)) 18 0) 19 0) 20 0) 22 0) 24 0) (updR (updR (updR (updR R 5 (.ref pq)) 6 (.null)) 7 (.ref (a sp))) 8 (.ref (a op))) 0 (updA B 33 (upd f6 5 (nI fl))) J K.1 (fun q99 x99 => x99 = rep G a K q99) w := hO.to rfl
  obtain ⟨_, qr10, hqr11⟩ := hO.2.1 29 _ (sg_29 G h0 a _ _ _ _ _)
  refine pc_V0 (G := G) (As := [.int (nI c9)]) (rest := []) hx hb hml hown hq hE hX pX0_al hP hD hS hA hl.1 (K_heapStart l G h0 a (upd (upd (upd (upd (upd (upd (upd F 5 (nI cs)) 6 (nI rg)) 18 0) 19 0) 20 0) 22 0) 24 0) (updR (updR (updR (updR R 5 (.ref pq)) 6 (.null)) 7 (.ref (a sp))) 8 (.ref (a op))) 0 (updA B 33 (upd f6 5 (nI fl))) J K.1 (fun q99 x99 => x99 = rep G a K q99) w c9 (by omega) hO) (gV pw_581 pw_582 pw_583 pw_440 pw_418) hV_X3_start qr10 3 hqr11 rfl rfl rfl (Nat.le_of_ble_eq_true rfl) dX5_start_21 ⟨Nat.le_of_ble_eq_true rfl, Nat.le_of_ble_eq_true rfl⟩ ⟨Nat.le_of_ble_eq_true rfl, Nat.le_of_ble_eq_true rfl⟩ (fun v9 u7 H locs hw8 hP hD hS => ?_)
  obtain ⟨w, _⟩ := u7
  obtain ⟨hw8, hO⟩ := hw8
  obtain rfl : v9 = none := hw8
  have hO : OKP G h0 a (upd (upd (upd (upd (upd (upd (upd (upd (upd F 5 (nI cs)) 6 (nI rg)) 18 0) 19 0) 20 0) 22 0) 24 0) 26 8) 28 (nI (8 + c9))) (updR (updR (updR (updR R 5 (.ref pq)) 6 (.null)) 7 (.ref (a sp))) 8 (.ref (a op))) 0 (updA B 33 (upd f6 5 (nI fl))) J K w := hO.to rfl
  refine W.widen (k := 0) (n := 0) (Nat.le_of_ble_eq_true rfl) (Nat.le_of_ble_eq_true rfl) ?_
  refine W.eq (g2 := F0 m 24 ls []) rfl ?_
  refine lv_aload_n hx hb dX5_start_24 rfl (lv_at hl 0 rfl) ?_
  refine lv_iconst (v := 5) hx hb dX5_start_25 (by decide) ?_
  refine c_put (v := .int 5) (ty := .int) (C := RX5) (Tc := TX5) (N := 19) (ci := 4) hx hb hq pin_wsX50 tyX5 tyX5_ok nmX5 hown hE hP hD hS hO 28 (sg_28 G h0 a _ _ _ _ _) rfl 16 (by decide) (hq _ pw_513) (fun _ h9 => h9) rfl (by decide +kernel) rfl rfl (Nat.le_of_ble_eq_true rfl) (sf_23 G h0 a _ _ _ _ _ 5) dX5_start_26 (fun H locs w hP hD hS hO => ?_)
  refine lv_aload_n hx hb dX5_start_29 rfl (lv_at hl 0 rfl) ?_
  refine lv_aload_n hx hb dX5_start_30 rfl (lv_at hl 0 rfl) ?_
  refine c_get (v := .ref pq) (C := RX5) (Tc := TX5) (N := 19) (ci := 4) hx hb hq pin_wsX50 hown hE hP hO 28 (sg_28 G h0 a _ _ _ _ _) rfl 8 (by decide) (hq _ pw_486) (fun _ h9 => h9) rfl dX5_start_31 ?_
  refine lv_bipush (v := 36) hx hb dX5_start_34 (by decide) ?_
  have hO : OKP G h0 a (upd (upd (upd (upd (upd (upd (upd (upd (upd (upd F 5 (nI cs)) 6 (nI rg)) 18 0) 19 0) 20 0) 22 0) 23 5) 24 0) 26 8) 28 (nI (8 + c9))) (updR (updR (updR (updR R 5 (.ref pq)) 6 (.null)) 7 (.ref (a sp))) 8 (.ref (a op))) 0 (updA B 33 (upd f6 5 (nI fl))) J K w := hO.to rfl
  obtain ⟨qr15, hqr16⟩ := p_recv hO (by rw [hp1]; decide) (rep_7 hp1)
  refine pc_V0 (G := G) (As := [.int 36]) (rest := [.ref (a 5)]) hx hb hml hown hq hE hX pX0_al hP hD hS hA hl.1 (Y_find l G h0 a (upd (upd (upd (upd (upd (upd (upd (upd (upd (upd F 5 (nI cs)) 6 (nI rg)) 18 0) 19 0) 20 0) 22 0) 23 5) 24 0) 26 8) 28 (nI (8 + c9))) (updR (updR (updR (updR R 5 (.ref pq)) 6 (.null)) 7 (.ref (a sp))) 8 (.ref (a op))) 0 (updA B 33 (upd f6 5 (nI fl))) J K w pq dr ml nd m9 q7 36 g hps.1 hps.2.1 hm1 hm4 hm5 hm6 hO) (gV pw_584 pw_585 pw_586 pw_106 pw_509) hV_X9_find qr15 6 hqr16 rfl rfl rfl (Nat.le_of_ble_eq_true rfl) dX5_start_36 ⟨Nat.le_of_ble_eq_true rfl, Nat.le_of_ble_eq_true rfl⟩ ⟨Nat.le_of_ble_eq_true rfl, Nat.le_of_ble_eq_true rfl⟩ (fun v14 u12 H locs hw13 hP hD hS => ?_)
  obtain ⟨w, _⟩ := u12
  obtain ⟨hw13, hO⟩ := hw13
  obtain rfl : v14 = some (.int (nI m9)) := hw13
  have hO : OKP G h0 a (upd (upd (upd (upd (upd (upd (upd (upd (upd (upd F 5 (nI cs)) 6 (nI rg)) 18 0) 19 0) 20 0) 22 0) 23 5) 24 0) 26 8) 28 (nI (8 + c9))) (updR (updR (updR (updR R 5 (.ref pq)) 6 (.null)) 7 (.ref (a sp))) 8 (.ref (a op))) 0 (updA B 33 (upd f6 5 (nI fl))) J K w := hO.to rfl
  refine W.widen (k := 0) (n := 0) (Nat.le_of_ble_eq_true rfl) (Nat.le_of_ble_eq_true rfl) ?_
  refine W.eq (g2 := F0 m 39 ls [.int (nI m9), .ref (a 5)]) rfl ?_
  have hfl0 : (upd f6 5 (nI fl)) 5 = nI fl := if_pos rfl
  have hO : OKP G h0 a (upd (upd (upd (upd (upd (upd (upd (upd (upd (upd (upd (upd (upd (upd (upd F 5 (nI cs)) 6 (nI rg)) 18 0) 19 0) 20 0) 22 0) 23 5) 24 0) 26 8) 28 (nI (8 + c9))) 19 0) 22 0) 23 5) 26 8) 28 (nI (8 + c9))) (updR (updR (updR (updR (updR (updR (updR (updR R 5 (.ref pq)) 6 (.null)) 7 (.ref (a sp))) 8 (.ref (a op))) 5 (.ref pq)) 6 (.null)) 7 (.ref (a sp))) 8 (.ref (a op))) 0 (updA B 33 (upd f6 5 (nI fl))) J K w := hO.to rfl
  obtain ⟨_, qr20, hqr21⟩ := hO.2.1 28 _ (sg_28 G h0 a _ _ _ _ _)
  refine pc_V0 (G := G) (As := [.int (nI m9)]) (rest := []) hx hb hml hown hq hE hX pX0_al hP hD hS hA hl.1 (Y_makeObject0 l G h0 a (upd (upd (upd (upd (upd (upd (upd (upd (upd (upd F 5 (nI cs)) 6 (nI rg)) 18 0) 19 0) 20 0) 22 0) 23 5) 24 0) 26 8) 28 (nI (8 + c9))) (updR (updR (updR (updR R 5 (.ref pq)) 6 (.null)) 7 (.ref (a sp))) 8 (.ref (a op))) 0 (updA B 33 (upd f6 5 (nI fl))) J K w y sp op fl (8 + c9) m9 pq dr ml nd nm cp it s9 g rk cs rg hsp hfl0 (by omega) hle hwp hps hrk hpy (by omega) hm3 hO) (gV pw_587 pw_588 pw_589 pw_539 pw_559) hV_X5_makeObject qr20 4 hqr21 rfl rfl rfl (Nat.le_of_ble_eq_true rfl) dX5_start_39 ⟨Nat.le_of_ble_eq_true rfl, Nat.le_of_ble_eq_true rfl⟩ ⟨Nat.le_of_ble_eq_true rfl, Nat.le_of_ble_eq_true rfl⟩ (fun v19 u17 H locs hw18 hP hD hS => ?_)
  obtain ⟨w, tp22, en23, J24, ta25, sp26, op27, ht28, ot29⟩ := u17
  obtain ⟨hw18, h30, h31, h32, h33, h34, hO⟩ := hw18
  have h30 : MdQ J J24 sp sp26 (1 + yfd y m9) m9 tp22 ht28 en23 := h30
  have h31 : ta25 5 = nI fl := h31
  have h32 : (sp26 = 34 ∧ op27 = 35) ∨ (sp26 = 35 ∧ op27 = 34) := h32
  have h33 : (8 ≤ ht28 ∧ ht28 ≤ 3008) ∧ tp22 ≤ 1 := h33
  have h34 : LoE J24 sp26 op27 := h34
  obtain rfl : v19 = none := hw18
  have hO : OKP G h0 a (upd (upd (upd (upd (upd (upd (upd (upd (upd (upd (upd F 5 (nI cs)) 6 (nI rg)) 18 0) 19 (nI tp22)) 20 0) 22 0) 23 en23) 24 0) 26 (nI ht28)) 27 ot29) 28 (nI (8 + c9))) (updR (updR (updR (updR R 5 (.ref pq)) 6 (.null)) 7 (.ref (a sp26))) 8 (.ref (a op27))) 0 (updA B 33 ta25) J24 K w := hO.to rfl
  refine W.widen (k := 0) (n := 0) (Nat.le_of_ble_eq_true rfl) (Nat.le_of_ble_eq_true rfl) ?_
  refine W.eq (g2 := F0 m 42 ls []) rfl ?_
  refine lv_aload_n hx hb dX5_start_42 rfl (lv_at hl 0 rfl) ?_
  refine c_get (v := .int en23) (C := RX5) (Tc := TX5) (N := 19) (ci := 4) hx hb hq pin_wsX50 hown hE hP hO 28 (sg_28 G h0 a _ _ _ _ _) rfl 16 (by decide) (hq _ pw_513) (fun _ h9 => h9) rfl dX5_start_43 ?_
  refine lv_iconst (v := 5) hx hb dX5_start_46 (by decide) ?_
  refine lv_icmp_ne (tgt := 65) hx hb dX5_start_47 (by decide) (fun c35 => ?_) (fun c35 => ?_)
  · have hz36 : WkI y it (B 16) (B 19) (B 30) J24 0 fl tp22 sp26 op27 ht28 en23 (0 : Int32) 0 0 0 none := (Or.inl c35)
    have hz37 : tp22 ≤ 32000 ∧ 0 ≤ 32000 ∧ 0 ≤ 100 ∧ (8 ≤ ht28 ∧ ht28 ≤ 3008) ∧ fl ≤ 20000 := (by omega)
    have hz38 : ta25 5 = nI fl := h31
    have hz39 : (sp26 = 34 ∧ op27 = 35) ∨ (sp26 = 35 ∧ op27 = 34) := h32
    have hz40 : LoE J24 sp26 op27 := h34
    have hO : OKP G h0 a (upd (upd (upd (upd (upd (upd (upd (upd (upd (upd (upd (upd F 5 (nI cs)) 6 (nI rg)) 18 (nI 0)) 19 (nI tp22)) 20 (0 : Int32)) 21 (F 21)) 22 (nI 0)) 23 en23) 24 0) 26 (nI ht28)) 27 ot29) 28 (nI (8 + c9))) (updR (updR (updR (updR R 5 (.ref pq)) 6 (va_rf none)) 7 (.ref (a sp26))) 8 (.ref (a op27))) 0 (updA (updA B 30 (B 30)) 33 ta25) J24 K w := hO.to rfl
    exact W.vret hx hb hr (fun t99 ht99 hW99 => ⟨⟨_, (w, (tp22, 0, 0, fl, sp26, op27, ht28, en23, (F 21), (0 : Int32), ot29, J24, none, ta25, (B 30))), rfl, ⟨rfl, hz36, hz37, hz38, hz39, hz40, hO⟩, by rw [ht99]; exact hP, hD⟩, hS.F ht99⟩) hS.2.2 dX5_start_65
  · obtain ⟨_, htp1, hsp1, hht1, hrm1, hst1, hhd1, hze1, hlo1⟩ := Or.resolve_left h30 (fun z => absurd (z.1.symm.trans c35) (by decide))
    obtain rfl : en23 = 5 := c35
    subst htp1 hht1
    have hsp2 := hsp1.symm
    subst hsp2
    have hop1 : op27 = op := by have := h32; omega
    subst hop1
    have hO : OKP G h0 a (upd (upd (upd (upd (upd (upd (upd (upd (upd (upd (upd F 5 (nI cs)) 6 (nI rg)) 18 0) 19 1) 20 0) 22 0) 23 5) 24 0) 26 (nI (8 + (1 + yfd y m9)))) 27 ot29) 28 (nI (8 + c9))) (updR (updR (updR (updR R 5 (.ref pq)) 6 (.null)) 7 (.ref (a sp))) 8 (.ref (a op27))) 0 (updA B 33 ta25) J24 K w := hO.to rfl
    refine lv_aload_n hx hb dX5_start_50 rfl (lv_at hl 0 rfl) ?_
    refine lv_bipush (v := 37) hx hb dX5_start_51 (by decide) ?_
    refine lv_iconst (v := 0) hx hb dX5_start_53 (by decide) ?_
    have hO : OKP G h0 a (upd (upd (upd (upd (upd (upd (upd (upd (upd (upd (upd (upd (upd (upd (upd (upd (upd (upd (upd F 5 (nI cs)) 6 (nI rg)) 18 0) 19 1) 20 0) 22 0) 23 5) 24 0) 26 (nI (8 + (1 + yfd y m9)))) 27 ot29) 28 (nI (8 + c9))) 5 (nI cs)) 6 (nI rg)) 18 0) 19 1) 20 0) 22 0) 23 5) 26 (nI (8 + (1 + yfd y m9)))) (updR (updR (updR (updR (updR (updR (updR (updR R 5 (.ref pq)) 6 (.null)) 7 (.ref (a sp))) 8 (.ref (a op27))) 5 (.ref pq)) 6 (.null)) 7 (.ref (a sp))) 8 (.ref (a op27))) 0 (updA B 33 ta25) J24 K w := hO.to rfl
    obtain ⟨_, qr44, hqr45⟩ := hO.2.1 28 _ (sg_28 G h0 a _ _ _ _ _)
    refine pc_V0 (G := G) (As := [.int 37, .int 0]) (rest := []) hx hb hml hown hq hE hX pX0_al hP hD hS hA hl.1 (Y_callNearest0 l G h0 a (upd (upd (upd (upd (upd (upd (upd (upd (upd (upd (upd F 5 (nI cs)) 6 (nI rg)) 18 0) 19 1) 20 0) 22 0) 23 5) 24 0) 26 (nI (8 + (1 + yfd y m9)))) 27 ot29) 28 (nI (8 + c9))) (updR (updR (updR (updR R 5 (.ref pq)) 6 (.null)) 7 (.ref (a sp))) 8 (.ref (a op27))) 0 (updA B 33 ta25) J24 K w y sp op27 (8 + (1 + yfd y m9)) fl m9 (1 + yfd y m9) k9 pq dr ml nd nm cp it s9 g rk cs rg hsp h31 (by omega) hst1 hhd1 (by omega) hmx hwp hps hrk hpy (by omega) hO) (gV pw_590 pw_591 pw_592 pw_539 pw_577) hV_X5_callNearest qr44 4 hqr45 rfl rfl rfl (Nat.le_of_ble_eq_true rfl) dX5_start_54 ⟨Nat.le_of_ble_eq_true rfl, Nat.le_of_ble_eq_true rfl⟩ ⟨Nat.le_of_ble_eq_true rfl, Nat.le_of_ble_eq_true rfl⟩ (fun v43 u41 H locs hw42 hP hD hS => ?_)
    obtain ⟨w, tp46, en47, nx48, ba49, on50, fl51, mo52, ta53, fr54⟩ := u41
    obtain ⟨hw42, h55, h56, h57, hO⟩ := hw42
    have h55 : ¬ en47 = 5 ∨ (en47 = 5 ∧ fl = fl51 + 1 ∧ tp46 = ysl y k9 ∧ nx48 = nI (ylo y k9) ∧ ba49 = 0 ∧ on50 = 1 ∧ mo52 = some (it k9)) := h55
    have h56 : ta53 5 = nI fl51 := h56
    have h57 : tp46 ≤ 32000 ∧ ba49 ≤ 32000 ∧ on50 ≤ 100 ∧ fl51 ≤ fl := h57
    obtain rfl : v43 = none := hw42
    have hO : OKP G h0 a (upd (upd (upd (upd (upd (upd (upd (upd (upd (upd (upd (upd F 5 (nI cs)) 6 (nI rg)) 18 (nI ba49)) 19 (nI tp46)) 20 0) 21 nx48) 22 (nI on50)) 23 en47) 24 0) 26 (nI (8 + (1 + yfd y m9)))) 27 ot29) 28 (nI (8 + c9))) (updR (updR (updR (updR R 5 (.ref pq)) 6 (va_rf mo52)) 7 (.ref (a sp))) 8 (.ref (a op27))) 0 (updA (updA B 30 fr54) 33 ta53) J24 K w := hO.to rfl
    refine W.widen (k := 0) (n := 0) (Nat.le_of_ble_eq_true rfl) (Nat.le_of_ble_eq_true rfl) ?_
    refine W.eq (g2 := F0 m 57 ls []) rfl ?_
    refine lv_aload_n hx hb dX5_start_57 rfl (lv_at hl 0 rfl) ?_
    refine lv_aload_n hx hb dX5_start_58 rfl (lv_at hl 0 rfl) ?_
    refine c_get (v := .int nx48) (C := RX5) (Tc := TX5) (N := 19) (ci := 4) hx hb hq pin_wsX50 hown hE hP hO 28 (sg_28 G h0 a _ _ _ _ _) rfl 13 (by decide) (hq _ pw_566) (fun _ h9 => h9) rfl dX5_start_59 ?_
    refine c_put (v := .int nx48) (ty := .int) (C := RX5) (Tc := TX5) (N := 19) (ci := 4) hx hb hq pin_wsX50 tyX5 tyX5_ok nmX5 hown hE hP hD hS hO 28 (sg_28 G h0 a _ _ _ _ _) rfl 12 (by decide) (hq _ pw_506) (fun _ h9 => h9) rfl (by decide +kernel) rfl rfl (Nat.le_of_ble_eq_true rfl) (sf_20 G h0 a _ _ _ _ _ nx48) dX5_start_62 (fun H locs w hP hD hS hO => ?_)
    have hz58 : WkI y it (B 16) (B 19) fr54 J24 0 fl51 tp46 sp op27 (8 + (1 + yfd y m9)) en47 nx48 0 ba49 on50 mo52 := (WkI.start h55 hpy (hpy.2.1 k9 ((hpy.2.2.2.2.1 m9 k9 37 hm3 hm7).1)).1 hmx hle h34 hrm1 hhd1 hze1 hlo1 hst1 hflb)
    have hz59 : tp46 ≤ 32000 ∧ ba49 ≤ 32000 ∧ on50 ≤ 100 ∧ (8 ≤ (8 + (1 + yfd y m9)) ∧ (8 + (1 + yfd y m9)) ≤ 3008) ∧ fl51 ≤ 20000 := (by omega)
    have hz60 : ta53 5 = nI fl51 := h56
    have hz61 : (sp = 34 ∧ op27 = 35) ∨ (sp = 35 ∧ op27 = 34) := h32
    have hz62 : LoE J24 sp op27 := h34
    have hO : OKP G h0 a (upd (upd (upd (upd (upd (upd (upd (upd (upd (upd (upd (upd F 5 (nI cs)) 6 (nI rg)) 18 (nI ba49)) 19 (nI tp46)) 20 nx48) 21 nx48) 22 (nI on50)) 23 en47) 24 0) 26 (nI (8 + (1 + yfd y m9)))) 27 ot29) 28 (nI (8 + c9))) (updR (updR (updR (updR R 5 (.ref pq)) 6 (va_rf mo52)) 7 (.ref (a sp))) 8 (.ref (a op27))) 0 (updA (updA B 30 fr54) 33 ta53) J24 K w := hO.to rfl
    exact W.vret hx hb hr (fun t99 ht99 hW99 => ⟨⟨_, (w, (tp46, ba49, on50, fl51, sp, op27, (8 + (1 + yfd y m9)), en47, nx48, nx48, ot29, J24, mo52, ta53, fr54)), rfl, ⟨rfl, hz58, hz59, hz60, hz61, hz62, hO⟩, by rw [ht99]; exact hP, hD⟩, hS.F ht99⟩) hS.2.2 dX5_start_65

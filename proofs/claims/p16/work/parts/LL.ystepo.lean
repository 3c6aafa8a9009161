theorem FFy.enter {y : TY} {S : Nat → Nat} {st : Nat → Int64} {j ba tp x k : Nat} {a c : AS} (h : FFy y S j st a ba tp) (wf : WfA a) (wc : WfA c) (hk : k = a.2.1) (hks : k + 2 ≤ ysl y j) (g : Go (yfi y) (a.1, k + 2, upM (upM a.2.2.1 k (1001 + 2 * x)) (k + 1) 999, a.2.2.2) c) : FFy y S j (vp_updL (vp_updL st (ba + k) 4294967295) (ba + (k + 1)) 0) c ba tp := by
  subst hk
  refine FF.enter (st1 := vp_updL (vp_updL st (ba + a.2.1) 4294967295) (ba + (a.2.1 + 1)) 0) h wf wc hks g ?_ ?_ (fun i _ h1 h2 => ?_)
  · rw [vpL_ne (by omega), vpL_eq]
    decide
  · rw [show ba + a.2.1 + 1 = ba + (a.2.1 + 1) by omega]; exact vpL_eq
  · rw [vpL_ne (by omega), vpL_ne h1]
theorem MOy.wf {y : TY} {O L R H : Nat → Int32} {j x : Nat} {a : AS} (hm : MOy y O L R H j) (g : Go (yfi y) a (yA y j x)) (h1 : ylo y j ≤ x) (h2 : x ≤ yhi y j) : WfA (yA y j x) := (hm.2.2.2.1 x h1 (MO.tgt hm g h2) g.1).1
set_option maxHeartbeats 2000000 in
set_option maxRecDepth 100000 in
theorem Y_goOn1 (l : Launch) (G : pT) (h0 : Nat) (a : Nat → Nat) (F : Nat → Int32) (R : Nat → Value) (Z : Int64) (B : Nat → Nat → Int32) (J : Nat → Nat → Int64) (T : Nat → Nat) (Pi : Nat → va_E → Prop) (w : va_W) (x : Int64) (hO : OKW G h0 a F R Z B J T Pi w) : PM l G pX0 yX5_goOn cX5_goOn 4 none ({ frames := 2, cells := 0, slots := 0, locals := 60 }) [.ref (a 5), .int (-1), .long x] w (fun (v : Option Value) (u : va_W × (Unit)) => v = none ∧ (OKW G h0 a F R Z B J T Pi u.1)) (fun u => u.1) := by
  intro sz
  refine Met.ofW (cc := cX5_goOn) (maxL := 4) (ret := none) (by decide) rfl ?_
  intro p e s m args below meth c s₁ B9 hml hv
  obtain ⟨rfl, hsz, hP, hD0, hE, hX⟩ := hv
  have hx := B9.exec
  have hb := B9.bytes
  have hr := B9.returns
  have hts := atoms_spec (ws := Cond.code yX5_goOn cX5_goOn 4 none :: pw) B9.pre
  have hq : ∀ w ∈ pw, w.before _ s = true := fun w h => hts w (List.mem_cons_of_mem _ h)
  have hown : s.vm.findClass RX5 = some m.cls := findClass_of_methodNamed B9.named
  have hlocks := B9.notSynchronized
  subst hsz
  have hD := hD0.self (sz := s.heap.size)
  have hA : ∀ q : Nat, s.heap.size ≤ q → va_A w s.heap.size q := fun q h => Or.inr h
  generalize va_A w s.heap.size = A at hD hE hA ⊢
  have hS : va_S A s.heap s.heap [] := va_S.rf
  have hl := lv_entry ([.ref (a 5), .int (-1), .long x]) (n := 4) (Nat.le_of_ble_eq_true rfl)
  rw [lg_entry_eq]
  generalize (lg_sl ([.ref (a 5), .int (-1), .long x]) ++ List.replicate (4 - (lg_sl ([.ref (a 5), .int (-1), .long x])).length) Slot.unset).toArray = ls at hl ⊢
  have hl : lv_has ls 4 [(0, .ref (a 5)), (1, .int (-1)), (2, .long x)] := hl
  refine lv_iload_n hx hb dX5_goOn_0 rfl (lv_at hl 1 rfl) ?_
  refine lv_bipush (v := (-2)) hx hb dX5_goOn_1 (by decide) ?_
  refine lv_icmp_ne (tgt := 14) hx hb dX5_goOn_3 (by decide) (fun c1 => ?_) (fun c1 => absurd c1 (by decide))
  refine lv_iload_n hx hb dX5_goOn_14 rfl (lv_at hl 1 rfl) ?_
  refine lv_iconst (v := (-1)) hx hb dX5_goOn_15 (by decide) ?_
  refine lv_icmp_eq (tgt := 25) hx hb dX5_goOn_16 (by decide) (fun c2 => ?_) (fun c2 => absurd c2 (by decide))
  have hO : OKW G h0 a F R Z B J T Pi w := hO.to rfl
  exact W.vret hx hb hr (fun t99 ht99 hW99 => ⟨⟨_, (w, ()), rfl, ⟨rfl, hO⟩, by rw [ht99]; exact hP, hD⟩, hS.F ht99⟩) hS.2.2 dX5_goOn_25
set_option maxHeartbeats 2000000 in
set_option maxRecDepth 100000 in
theorem Y_goOn2 (l : Launch) (G : pT) (h0 : Nat) (a : Nat → Nat) (F : Nat → Int32) (R : Nat → Value) (Z : Int64) (B : Nat → Nat → Int32) (J : Nat → Nat → Int64) (T : Nat → Nat) (Pi : Nat → va_E → Prop) (w : va_W) (x : Int64) (hO : OKW G h0 a F R Z B J T Pi w) : PM l G pX0 yX5_goOn cX5_goOn 4 none ({ frames := 2, cells := 0, slots := 0, locals := 60 }) [.ref (a 5), .int (-2), .long x] w (fun (v : Option Value) (u : va_W × (Unit)) => v = none ∧ (OKW G h0 a F R x B J T Pi u.1)) (fun u => u.1) := by
  intro sz
  refine Met.ofW (cc := cX5_goOn) (maxL := 4) (ret := none) (by decide) rfl ?_
  intro p e s m args below meth c s₁ B9 hml hv
  obtain ⟨rfl, hsz, hP, hD0, hE, hX⟩ := hv
  have hx := B9.exec
  have hb := B9.bytes
  have hr := B9.returns
  have hts := atoms_spec (ws := Cond.code yX5_goOn cX5_goOn 4 none :: pw) B9.pre
  have hq : ∀ w ∈ pw, w.before _ s = true := fun w h => hts w (List.mem_cons_of_mem _ h)
  have hown : s.vm.findClass RX5 = some m.cls := findClass_of_methodNamed B9.named
  have hlocks := B9.notSynchronized
  subst hsz
  have hD := hD0.self (sz := s.heap.size)
  have hA : ∀ q : Nat, s.heap.size ≤ q → va_A w s.heap.size q := fun q h => Or.inr h
  generalize va_A w s.heap.size = A at hD hE hA ⊢
  have hS : va_S A s.heap s.heap [] := va_S.rf
  have hl := lv_entry ([.ref (a 5), .int (-2), .long x]) (n := 4) (Nat.le_of_ble_eq_true rfl)
  rw [lg_entry_eq]
  generalize (lg_sl ([.ref (a 5), .int (-2), .long x]) ++ List.replicate (4 - (lg_sl ([.ref (a 5), .int (-2), .long x])).length) Slot.unset).toArray = ls at hl ⊢
  have hl : lv_has ls 4 [(0, .ref (a 5)), (1, .int (-2)), (2, .long x)] := hl
  refine lv_iload_n hx hb dX5_goOn_0 rfl (lv_at hl 1 rfl) ?_
  refine lv_bipush (v := (-2)) hx hb dX5_goOn_1 (by decide) ?_
  refine lv_icmp_ne (tgt := 14) hx hb dX5_goOn_3 (by decide) (fun c1 => absurd c1 (by decide)) (fun c1 => ?_)
  refine lv_aload_n hx hb dX5_goOn_6 rfl (lv_at hl 0 rfl) ?_
  refine lv_lload_n hx hb dX5_goOn_7 rfl (lv_at hl 2 rfl) ?_
  refine c_put (v := .long x) (ty := .long) (C := RX5) (Tc := TX5) (N := 19) (ci := 4) hx hb hq pin_wsX50 tyX5 tyX5_ok nmX5 hown hE hP hD hS hO 28 (sg_28 G h0 a _ _ _ _ _) rfl 14 (by decide) (hq _ pw_485) (fun _ h9 => h9) rfl (by decide +kernel) rfl rfl (Nat.le_of_ble_eq_true rfl) (sz G h0 a _ _ _ _ _ x) dX5_goOn_8 (fun H locs w hP hD hS hO => ?_)
  refine lv_goto (tgt := 25) hx hb dX5_goOn_11 (by decide) ?_
  have hO : OKW G h0 a F R x B J T Pi w := hO.to rfl
  exact W.vret hx hb hr (fun t99 ht99 hW99 => ⟨⟨_, (w, ()), rfl, ⟨rfl, hO⟩, by rw [ht99]; exact hP, hD⟩, hS.F ht99⟩) hS.2.2 dX5_goOn_25
set_option maxHeartbeats 40000000 in
set_option maxRecDepth 100000 in
theorem Y_goOn3 (l : Launch) (G : pT) (h0 : Nat) (a : Nat → Nat) (F : Nat → Int32) (R : Nat → Value) (Z : Int64) (B : Nat → Nat → Int32) (J : Nat → Nat → Int64) (K : PK) (w : va_W) (y : TY) (Sh : Nat → Nat) (nn : Nat → Nat) (on : Nat) (j9 : Nat) (ba : Nat) (pc : Nat) (tp : Nat) (sp : Nat) (op : Nat) (ht : Nat) (fl : Nat) (pq : Nat) (dr : Nat) (ml : Nat) (nd : Nat) (nm : Nat) (cp : Nat) (it : Nat → Nat) (s9 : Nat) (g : Nat → Nat → Nat) (rk : Nat → Nat) (cs : Nat) (rg : Nat) (x : Int64) (hsp : (sp = 34 ∧ op = 35) ∨ (sp = 35 ∧ op = 34)) (hmw : MWy y (B 19) Sh nn (J sp) ht (B 30) (J 29) on j9 ba pc) (hmo : MOy y (B 16) (B 17) (B 18) (B 19) j9) (hne : ¬ B 16 pc = 0) (hle : LoE J sp op) (htp : tp ≤ 32000) (hwp : WPr G K g) (hps : PgT G K g (a 1) pq dr ml nd nm cp it s9) (hrk : RkO K rk) (hpy : PrY y K B dr nd nm it cs rg) (hcs9 : cs ≤ 10000) (hvo : VO Sh x) (hrv : yrt y j9 = 63 ∨ VT (yfi y) Sh (yrt y j9) x) (hrg : rg ≤ 625) (hO : OKP G h0 a (upd (upd (upd (upd (upd (upd (upd (upd F 5 (nI cs)) 6 (nI rg)) 18 (nI ba)) 19 (nI tp)) 20 (nI pc)) 22 (nI on)) 23 5) 26 (nI ht)) (updR (updR (updR (updR R 5 (.ref pq)) 6 (.ref (it j9))) 7 (.ref (a sp))) 8 (.ref (a op))) Z B J K w) : PM l G pX0 yX5_goOn cX5_goOn 4 none ({ frames := 9, cells := 0, slots := 0, locals := 213 }) [.ref (a 5), .int (-3), .long x] w (fun (v : Option Value) (u : va_W × (Nat × Int32 × Int32 × Int32 × Int32 × (Nat → Nat → Int64) × Nat × Nat × Nat)) => v = none ∧ (LvQ y it (B 16) (B 19) (B 30) Sh nn u.2.2.2.2.2.2.1 sp ht fl (mT (B 16) (B 30) fl on pc) u.2.1 u.2.2.1 u.2.2.2.1 u.2.2.2.2.2.2.2.1 u.2.2.2.2.2.2.2.2.1 u.2.2.2.2.2.2.2.2.2) ∧ (LoE u.2.2.2.2.2.2.1 sp op) ∧ (u.2.1 ≤ 32000 ∧ u.2.2.2.2.2.2.2.1 ≤ 32000 ∧ u.2.2.2.2.2.2.2.2.1 ≤ 100) ∧ (OKP G h0 a (upd (upd (upd (upd (upd (upd (upd (upd (upd (upd F 5 (nI cs)) 6 (nI rg)) 18 (nI u.2.2.2.2.2.2.2.1)) 19 (nI u.2.1)) 20 u.2.2.2.2.1) 21 u.2.2.2.1) 22 (nI u.2.2.2.2.2.2.2.2.1)) 23 u.2.2.1) 24 u.2.2.2.2.2.1) 26 (nI ht)) (updR (updR (updR (updR R 5 (.ref pq)) 6 (.ref u.2.2.2.2.2.2.2.2.2)) 7 (.ref (a sp))) 8 (.ref (a op))) Z B u.2.2.2.2.2.2.1 K u.1)) (fun u => u.1) := by
  intro sz
  refine Met.ofW (cc := cX5_goOn) (maxL := 4) (ret := none) (by decide) rfl ?_
  intro p e s m args below meth c s₁ B9 hml hv
  obtain ⟨rfl, hsz, hP, hD0, hE, hX⟩ := hv
  have hx := B9.exec
  have hb := B9.bytes
  have hr := B9.returns
  have hts := atoms_spec (ws := Cond.code yX5_goOn cX5_goOn 4 none :: pw) B9.pre
  have hq : ∀ w ∈ pw, w.before _ s = true := fun w h => hts w (List.mem_cons_of_mem _ h)
  have hown : s.vm.findClass RX5 = some m.cls := findClass_of_methodNamed B9.named
  have hlocks := B9.notSynchronized
  subst hsz
  have hD := hD0.self (sz := s.heap.size)
  have hA : ∀ q : Nat, s.heap.size ≤ q → va_A w s.heap.size q := fun q h => Or.inr h
  generalize va_A w s.heap.size = A at hD hE hA ⊢
  have hS : va_S A s.heap s.heap [] := va_S.rf
  have hl := lv_entry ([.ref (a 5), .int (-3), .long x]) (n := 4) (Nat.le_of_ble_eq_true rfl)
  rw [lg_entry_eq]
  generalize (lg_sl ([.ref (a 5), .int (-3), .long x]) ++ List.replicate (4 - (lg_sl ([.ref (a 5), .int (-3), .long x])).length) Slot.unset).toArray = ls at hl ⊢
  have hl : lv_has ls 4 [(0, .ref (a 5)), (1, .int (-3)), (2, .long x)] := hl
  have hpg := hps.1
  have hp1 := hpg.1
  have hp2 := hpg.2.1
  have hp3 := hpg.2.2.1
  have hp4 := hpg.2.2.2.1
  have hp5 := hpg.2.2.2.2.1
  have hp6 := hpg.2.2.2.2.2.1
  have hp8 := hpg.2.2.2.2.2.2.2.1
  have hp9 := hpg.2.2.2.2.2.2.2.2
  have h29 : ¬ sp = 29 ∧ ¬ op = 29 := by omega
  obtain ⟨hb1, hb2, hb3, hb4, hb5, hb6⟩ := hmw.1.1
  have hnmE := hpy.1.1
  have hnm9 := hps.2.2.1.2.2.1
  have hmj := hpy.2.1 j9 (by omega)
  have hsj : ysl y j9 ≤ 319 := by have z9 := (hmo.2.2.2.1 pc hb4 hb5 hmw.1.2.1.1.1).2.2.1; have e9 : ysl y j9 = (yM y).2.1 j9 := rfl; omega
  have hbj : yhi y j9 ≤ 10000 := hmo.2.1.2
  have hb5y : pc < yhi y j9 := hb5
  have hrj := hmj.2.2.2.2.2.2.2.2.1
  refine lv_iload_n hx hb dX5_goOn_0 rfl (lv_at hl 1 rfl) ?_
  refine lv_bipush (v := (-2)) hx hb dX5_goOn_1 (by decide) ?_
  refine lv_icmp_ne (tgt := 14) hx hb dX5_goOn_3 (by decide) (fun c1 => ?_) (fun c1 => absurd c1 (by decide))
  refine lv_iload_n hx hb dX5_goOn_14 rfl (lv_at hl 1 rfl) ?_
  refine lv_iconst (v := (-1)) hx hb dX5_goOn_15 (by decide) ?_
  refine lv_icmp_eq (tgt := 25) hx hb dX5_goOn_16 (by decide) (fun c2 => absurd c2 (by decide)) (fun c2 => ?_)
  refine lv_aload_n hx hb dX5_goOn_19 rfl (lv_at hl 0 rfl) ?_
  refine lv_iload_n hx hb dX5_goOn_20 rfl (lv_at hl 1 rfl) ?_
  refine lv_lload_n hx hb dX5_goOn_21 rfl (lv_at hl 2 rfl) ?_
  have hO : OKP G h0 a (upd (upd (upd (upd (upd (upd (upd (upd (upd (upd (upd (upd (upd (upd (upd (upd F 5 (nI cs)) 6 (nI rg)) 18 (nI ba)) 19 (nI tp)) 20 (nI pc)) 22 (nI on)) 23 5) 26 (nI ht)) 5 (nI cs)) 6 (nI rg)) 18 (nI ba)) 19 (nI tp)) 20 (nI pc)) 22 (nI on)) 23 5) 26 (nI ht)) (updR (updR (updR (updR (updR (updR (updR (updR R 5 (.ref pq)) 6 (.ref (it j9))) 7 (.ref (a sp))) 8 (.ref (a op))) 5 (.ref pq)) 6 (.ref (it j9))) 7 (.ref (a sp))) 8 (.ref (a op))) Z B J K w := hO.to rfl
  obtain ⟨_, qr6, hqr7⟩ := hO.2.1 28 _ (sg_28 G h0 a _ _ _ _ _)
  refine pc_V0 (G := G) (As := [.int (-3), .long x]) (rest := []) hx hb hml hown hq hE hX pX0_al hP hD hS hA hl.1 (Y_leaveR l G h0 a (upd (upd (upd (upd (upd (upd (upd (upd F 5 (nI cs)) 6 (nI rg)) 18 (nI ba)) 19 (nI tp)) 20 (nI pc)) 22 (nI on)) 23 5) 26 (nI ht)) (updR (updR (updR (updR R 5 (.ref pq)) 6 (.ref (it j9))) 7 (.ref (a sp))) 8 (.ref (a op))) Z B J K w y Sh nn on j9 ba pc tp sp op ht fl pq dr ml nd nm cp it s9 g rk cs rg x hsp hmw hmo hne hle htp hwp hps hrk hpy hcs9 hvo hrv hrg hO) (gV pw_719 pw_720 pw_721 pw_539 pw_718) hV_X5_leave qr6 4 hqr7 rfl rfl rfl (Nat.le_of_ble_eq_true rfl) dX5_goOn_22 ⟨Nat.le_of_ble_eq_true rfl, Nat.le_of_ble_eq_true rfl⟩ ⟨Nat.le_of_ble_eq_true rfl, Nat.le_of_ble_eq_true rfl⟩ (fun v5 u3 H locs hw4 hP hD hS => ?_)
  obtain ⟨w, tp8, en9, nx10, pc11, rs12, J13, ba14, on15, mr16⟩ := u3
  obtain ⟨hw4, h17, h18, h19, hO⟩ := hw4
  have h17 : LvQ y it ((B 16)) ((B 19)) ((B 30)) Sh nn J13 sp ht fl (mT ((B 16)) ((B 30)) fl on pc) tp8 en9 nx10 ba14 on15 mr16 := h17
  have h18 : LoE J13 sp op := h18
  have h19 : tp8 ≤ 32000 ∧ ba14 ≤ 32000 ∧ on15 ≤ 100 := h19
  obtain rfl : v5 = none := hw4
  have hO : OKP G h0 a (upd (upd (upd (upd (upd (upd (upd (upd (upd (upd F 5 (nI cs)) 6 (nI rg)) 18 (nI ba14)) 19 (nI tp8)) 20 pc11) 21 nx10) 22 (nI on15)) 23 en9) 24 rs12) 26 (nI ht)) (updR (updR (updR (updR R 5 (.ref pq)) 6 (.ref mr16)) 7 (.ref (a sp))) 8 (.ref (a op))) Z B J13 K w := hO.to rfl
  refine W.widen (k := 0) (n := 0) (Nat.le_of_ble_eq_true rfl) (Nat.le_of_ble_eq_true rfl) ?_
  refine W.eq (g2 := F0 m 25 ls []) rfl ?_
  have hz20 : LvQ y it (B 16) (B 19) (B 30) Sh nn J13 sp ht fl (mT (B 16) (B 30) fl on pc) tp8 en9 nx10 ba14 on15 mr16 := h17
  have hz21 : LoE J13 sp op := h18
  have hz22 : tp8 ≤ 32000 ∧ ba14 ≤ 32000 ∧ on15 ≤ 100 := h19
  have hO : OKP G h0 a (upd (upd (upd (upd (upd (upd (upd (upd (upd (upd F 5 (nI cs)) 6 (nI rg)) 18 (nI ba14)) 19 (nI tp8)) 20 pc11) 21 nx10) 22 (nI on15)) 23 en9) 24 rs12) 26 (nI ht)) (updR (updR (updR (updR R 5 (.ref pq)) 6 (.ref mr16)) 7 (.ref (a sp))) 8 (.ref (a op))) Z B J13 K w := hO.to rfl
  exact W.vret hx hb hr (fun t99 ht99 hW99 => ⟨⟨_, (w, (tp8, en9, nx10, pc11, rs12, J13, ba14, on15, mr16)), rfl, ⟨rfl, hz20, hz21, hz22, hO⟩, by rw [ht99]; exact hP, hD⟩, hS.F ht99⟩) hS.2.2 dX5_goOn_25
set_option maxHeartbeats 40000000 in
set_option maxRecDepth 100000 in
theorem Y_goOnJ (l : Launch) (G : pT) (h0 : Nat) (a : Nat → Nat) (F : Nat → Int32) (R : Nat → Value) (Z : Int64) (B : Nat → Nat → Int32) (J : Nat → Nat → Int64) (K : PK) (w : va_W) (y : TY) (Sh : Nat → Nat) (nn : Nat → Nat) (on : Nat) (j9 : Nat) (ba : Nat) (pc : Nat) (tp : Nat) (sp : Nat) (op : Nat) (ht : Nat) (fl : Nat) (pq : Nat) (dr : Nat) (ml : Nat) (nd : Nat) (nm : Nat) (cp : Nat) (it : Nat → Nat) (s9 : Nat) (g : Nat → Nat → Nat) (rk : Nat → Nat) (cs : Nat) (rg : Nat) (x : Int64) (x9 : Nat) (hsp : (sp = 34 ∧ op = 35) ∨ (sp = 35 ∧ op = 34)) (hmw : MWy y (B 19) Sh nn (J sp) ht (B 30) (J 29) on j9 ba pc) (hmo : MOy y (B 16) (B 17) (B 18) (B 19) j9) (hne : ¬ B 16 pc = 0) (hle : LoE J sp op) (htp : tp ≤ 32000) (hwp : WPr G K g) (hps : PgT G K g (a 1) pq dr ml nd nm cp it s9) (hrk : RkO K rk) (hpy : PrY y K B dr nd nm it cs rg) (hcs9 : cs ≤ 10000) (hvo : VO Sh x) (hjx : MIy y (B 19) Sh nn (J sp) ht (B 30) (J 29) on j9 ba x9 tp) (hx9 : pc < x9 ∧ x9 < 10000) (hwx : ∀ k : Nat, lsR (yQ y) (yr0 y j9) (yr1 y j9) k → inR (yQ y) k pc → ¬ inR (yQ y) k x9 → ywp y j9 ((yQ y).2.2.1 k) x9) (hrg : rg ≤ 625) (hO : OKP G h0 a (upd (upd (upd (upd (upd (upd (upd (upd F 5 (nI cs)) 6 (nI rg)) 18 (nI ba)) 19 (nI tp)) 20 (nI pc)) 22 (nI on)) 23 5) 26 (nI ht)) (updR (updR (updR (updR R 5 (.ref pq)) 6 (.ref (it j9))) 7 (.ref (a sp))) 8 (.ref (a op))) Z B J K w) : PM l G pX0 yX5_goOn cX5_goOn 4 none ({ frames := 5, cells := 0, slots := 0, locals := 134 }) [.ref (a 5), .int (nI x9), .long x] w (fun (v : Option Value) (u : va_W × (Nat × Int32 × Int32 × Int32 × Int32 × (Nat → Nat → Int64) × Nat × Nat × Nat)) => v = none ∧ (LvQ y it (B 16) (B 19) (B 30) Sh nn u.2.2.2.2.2.2.1 sp ht fl (mT (B 16) (B 30) fl on pc) u.2.1 u.2.2.1 u.2.2.2.1 u.2.2.2.2.2.2.2.1 u.2.2.2.2.2.2.2.2.1 u.2.2.2.2.2.2.2.2.2) ∧ (LoE u.2.2.2.2.2.2.1 sp op) ∧ (u.2.1 ≤ 32000 ∧ u.2.2.2.2.2.2.2.1 ≤ 32000 ∧ u.2.2.2.2.2.2.2.2.1 ≤ 100) ∧ (OKP G h0 a (upd (upd (upd (upd (upd (upd (upd (upd (upd (upd F 5 (nI cs)) 6 (nI rg)) 18 (nI u.2.2.2.2.2.2.2.1)) 19 (nI u.2.1)) 20 u.2.2.2.2.1) 21 u.2.2.2.1) 22 (nI u.2.2.2.2.2.2.2.2.1)) 23 u.2.2.1) 24 u.2.2.2.2.2.1) 26 (nI ht)) (updR (updR (updR (updR R 5 (.ref pq)) 6 (.ref u.2.2.2.2.2.2.2.2.2)) 7 (.ref (a sp))) 8 (.ref (a op))) Z B u.2.2.2.2.2.2.1 K u.1)) (fun u => u.1) := by
  intro sz
  refine Met.ofW (cc := cX5_goOn) (maxL := 4) (ret := none) (by decide) rfl ?_
  intro p e s m args below meth c s₁ B9 hml hv
  obtain ⟨rfl, hsz, hP, hD0, hE, hX⟩ := hv
  have hx := B9.exec
  have hb := B9.bytes
  have hr := B9.returns
  have hts := atoms_spec (ws := Cond.code yX5_goOn cX5_goOn 4 none :: pw) B9.pre
  have hq : ∀ w ∈ pw, w.before _ s = true := fun w h => hts w (List.mem_cons_of_mem _ h)
  have hown : s.vm.findClass RX5 = some m.cls := findClass_of_methodNamed B9.named
  have hlocks := B9.notSynchronized
  subst hsz
  have hD := hD0.self (sz := s.heap.size)
  have hA : ∀ q : Nat, s.heap.size ≤ q → va_A w s.heap.size q := fun q h => Or.inr h
  generalize va_A w s.heap.size = A at hD hE hA ⊢
  have hS : va_S A s.heap s.heap [] := va_S.rf
  have hl := lv_entry ([.ref (a 5), .int (nI x9), .long x]) (n := 4) (Nat.le_of_ble_eq_true rfl)
  rw [lg_entry_eq]
  generalize (lg_sl ([.ref (a 5), .int (nI x9), .long x]) ++ List.replicate (4 - (lg_sl ([.ref (a 5), .int (nI x9), .long x])).length) Slot.unset).toArray = ls at hl ⊢
  have hl : lv_has ls 4 [(0, .ref (a 5)), (1, .int (nI x9)), (2, .long x)] := hl
  have hpg := hps.1
  have hp1 := hpg.1
  have hp2 := hpg.2.1
  have hp3 := hpg.2.2.1
  have hp4 := hpg.2.2.2.1
  have hp5 := hpg.2.2.2.2.1
  have hp6 := hpg.2.2.2.2.2.1
  have hp8 := hpg.2.2.2.2.2.2.2.1
  have hp9 := hpg.2.2.2.2.2.2.2.2
  have h29 : ¬ sp = 29 ∧ ¬ op = 29 := by omega
  obtain ⟨hb1, hb2, hb3, hb4, hb5, hb6⟩ := hmw.1.1
  have hnmE := hpy.1.1
  have hnm9 := hps.2.2.1.2.2.1
  have hmj := hpy.2.1 j9 (by omega)
  have hsj : ysl y j9 ≤ 319 := by have z9 := (hmo.2.2.2.1 pc hb4 hb5 hmw.1.2.1.1.1).2.2.1; have e9 : ysl y j9 = (yM y).2.1 j9 := rfl; omega
  have hbj : yhi y j9 ≤ 10000 := hmo.2.1.2
  have hb5y : pc < yhi y j9 := hb5
  have hrj := hmj.2.2.2.2.2.2.2.2.1
  refine lv_iload_n hx hb dX5_goOn_0 rfl (lv_at hl 1 rfl) ?_
  refine lv_bipush (v := (-2)) hx hb dX5_goOn_1 (by decide) ?_
  refine lv_icmp_ne (tgt := 14) hx hb dX5_goOn_3 (by decide) (fun c1 => ?_) (fun c1 => ((nI_ne x9 (by omega)).1 c1).elim)
  refine lv_iload_n hx hb dX5_goOn_14 rfl (lv_at hl 1 rfl) ?_
  refine lv_iconst (v := (-1)) hx hb dX5_goOn_15 (by decide) ?_
  refine lv_icmp_eq (tgt := 25) hx hb dX5_goOn_16 (by decide) (fun c2 => ((nI_ne x9 (by omega)).2.1 c2).elim) (fun c2 => ?_)
  refine lv_aload_n hx hb dX5_goOn_19 rfl (lv_at hl 0 rfl) ?_
  refine lv_iload_n hx hb dX5_goOn_20 rfl (lv_at hl 1 rfl) ?_
  refine lv_lload_n hx hb dX5_goOn_21 rfl (lv_at hl 2 rfl) ?_
  have hO : OKP G h0 a (upd (upd (upd (upd (upd (upd (upd (upd (upd (upd (upd (upd (upd (upd (upd (upd F 5 (nI cs)) 6 (nI rg)) 18 (nI ba)) 19 (nI tp)) 20 (nI pc)) 22 (nI on)) 23 5) 26 (nI ht)) 5 (nI cs)) 6 (nI rg)) 18 (nI ba)) 19 (nI tp)) 20 (nI pc)) 22 (nI on)) 23 5) 26 (nI ht)) (updR (updR (updR (updR (updR (updR (updR (updR R 5 (.ref pq)) 6 (.ref (it j9))) 7 (.ref (a sp))) 8 (.ref (a op))) 5 (.ref pq)) 6 (.ref (it j9))) 7 (.ref (a sp))) 8 (.ref (a op))) Z B J K w := hO.to rfl
  obtain ⟨_, qr6, hqr7⟩ := hO.2.1 28 _ (sg_28 G h0 a _ _ _ _ _)
  refine pc_V0 (G := G) (As := [.int (nI x9), .long x]) (rest := []) hx hb hml hown hq hE hX pX0_al hP hD hS hA hl.1 (Y_leaveJ l G h0 a (upd (upd (upd (upd (upd (upd (upd (upd F 5 (nI cs)) 6 (nI rg)) 18 (nI ba)) 19 (nI tp)) 20 (nI pc)) 22 (nI on)) 23 5) 26 (nI ht)) (updR (updR (updR (updR R 5 (.ref pq)) 6 (.ref (it j9))) 7 (.ref (a sp))) 8 (.ref (a op))) Z B J K w y Sh nn on j9 ba pc tp sp op ht fl pq dr ml nd nm cp it s9 g rk cs rg x x9 hsp hmw hmo hne hle htp hwp hps hrk hpy hcs9 hvo hjx hx9 hwx hrg hO) (gV pw_719 pw_720 pw_721 pw_539 pw_718) hV_X5_leave qr6 4 hqr7 rfl rfl rfl (Nat.le_of_ble_eq_true rfl) dX5_goOn_22 ⟨Nat.le_of_ble_eq_true rfl, Nat.le_of_ble_eq_true rfl⟩ ⟨Nat.le_of_ble_eq_true rfl, Nat.le_of_ble_eq_true rfl⟩ (fun v5 u3 H locs hw4 hP hD hS => ?_)
  obtain ⟨w, tp8, en9, nx10, pc11, rs12, J13, ba14, on15, mr16⟩ := u3
  obtain ⟨hw4, h17, h18, h19, hO⟩ := hw4
  have h17 : LvQ y it ((B 16)) ((B 19)) ((B 30)) Sh nn J13 sp ht fl (mT ((B 16)) ((B 30)) fl on pc) tp8 en9 nx10 ba14 on15 mr16 := h17
  have h18 : LoE J13 sp op := h18
  have h19 : tp8 ≤ 32000 ∧ ba14 ≤ 32000 ∧ on15 ≤ 100 := h19
  obtain rfl : v5 = none := hw4
  have hO : OKP G h0 a (upd (upd (upd (upd (upd (upd (upd (upd (upd (upd F 5 (nI cs)) 6 (nI rg)) 18 (nI ba14)) 19 (nI tp8)) 20 pc11) 21 nx10) 22 (nI on15)) 23 en9) 24 rs12) 26 (nI ht)) (updR (updR (updR (updR R 5 (.ref pq)) 6 (.ref mr16)) 7 (.ref (a sp))) 8 (.ref (a op))) Z B J13 K w := hO.to rfl
  refine W.widen (k := 0) (n := 0) (Nat.le_of_ble_eq_true rfl) (Nat.le_of_ble_eq_true rfl) ?_
  refine W.eq (g2 := F0 m 25 ls []) rfl ?_
  have hz20 : LvQ y it (B 16) (B 19) (B 30) Sh nn J13 sp ht fl (mT (B 16) (B 30) fl on pc) tp8 en9 nx10 ba14 on15 mr16 := h17
  have hz21 : LoE J13 sp op := h18
  have hz22 : tp8 ≤ 32000 ∧ ba14 ≤ 32000 ∧ on15 ≤ 100 := h19
  have hO : OKP G h0 a (upd (upd (upd (upd (upd (upd (upd (upd (upd (upd F 5 (nI cs)) 6 (nI rg)) 18 (nI ba14)) 19 (nI tp8)) 20 pc11) 21 nx10) 22 (nI on15)) 23 en9) 24 rs12) 26 (nI ht)) (updR (updR (updR (updR R 5 (.ref pq)) 6 (.ref mr16)) 7 (.ref (a sp))) 8 (.ref (a op))) Z B J13 K w := hO.to rfl
  exact W.vret hx hb hr (fun t99 ht99 hW99 => ⟨⟨_, (w, (tp8, en9, nx10, pc11, rs12, J13, ba14, on15, mr16)), rfl, ⟨rfl, hz20, hz21, hz22, hO⟩, by rw [ht99]; exact hP, hD⟩, hS.F ht99⟩) hS.2.2 dX5_goOn_25
set_option maxHeartbeats 40000000 in
set_option maxRecDepth 100000 in
theorem Y_so26 (l : Launch) (G : pT) (h0 : Nat) (a : Nat → Nat) (F : Nat → Int32) (R : Nat → Value) (Z : Int64) (B : Nat → Nat → Int32) (J : Nat → Nat → Int64) (K : PK) (w : va_W) (y : TY) (Sh : Nat → Nat) (nn : Nat → Nat) (on : Nat) (j9 : Nat) (ba : Nat) (pc : Nat) (tp : Nat) (sp : Nat) (op : Nat) (ht : Nat) (fl : Nat) (pq : Nat) (dr : Nat) (ml : Nat) (nd : Nat) (nm : Nat) (cp : Nat) (it : Nat → Nat) (s9 : Nat) (g : Nat → Nat → Nat) (rk : Nat → Nat) (cs : Nat) (rg : Nat) (hsp : (sp = 34 ∧ op = 35) ∨ (sp = 35 ∧ op = 34)) (hmi : MIy y (B 19) Sh nn (J sp) ht (B 30) (J 29) on j9 ba pc tp) (hmo : MOy y (B 16) (B 17) (B 18) (B 19) j9) (hZ : Z = 0) (hfl : B 33 5 = nI fl) (hflb : fl ≤ 20000) (hwp : WPr G K g) (hps : PgT G K g (a 1) pq dr ml nd nm cp it s9) (hrk : RkO K rk) (hpy : PrY y K B dr nd nm it cs rg) (hle : LoE J sp op) (hrg : rg ≤ 625) (hcs9 : cs ≤ 10000) (hop : B 16 pc = nI 26) (hru : IRy y (B 16) (B 17) (B 18) pc j9 26) (hO : OKP G h0 a (upd (upd (upd (upd (upd (upd (upd (upd (upd F 5 (nI cs)) 6 (nI rg)) 18 (nI ba)) 19 (nI tp)) 20 (nI pc)) 21 (nI (pc + 1))) 22 (nI on)) 23 5) 26 (nI ht)) (updR (updR (updR (updR R 5 (.ref pq)) 6 (.ref (it j9))) 7 (.ref (a sp))) 8 (.ref (a op))) Z B J K w) : PM l G pX0 yX5_stepOut cX5_stepOut 4 none ({ frames := 40, cells := 0, slots := 0, locals := 4000 }) [.ref (a 5), .int 26, .int (B 17 pc), .int (B 18 pc)] w (fun (v : Option Value) (u : va_W × (Nat × Int32 × Int32 × Int32 × Int32 × Int64 × (Nat → Nat → Int64) × Nat × Nat × Nat)) => v = none ∧ (StG y it (B 16) (B 19) (mT (B 16) (B 30) fl on pc) pc u.2.1 u.2.2.1 u.2.2.2.1 u.2.2.2.2.2.2.1 u.2.2.2.2.2.2.2.1 fl sp op ht (B 30) u.2.2.2.2.2.2.2.2.2.1 u.2.2.2.2.2.2.2.2.1 u.2.2.2.2.2.2.2.2.2.2) ∧ (PcK u.2.2.2.2.2.2.1 u.2.2.2.2.1 pc) ∧ (u.2.1 ≤ 32000 ∧ u.2.2.2.2.2.2.2.2.1 ≤ 32000 ∧ u.2.2.2.2.2.2.2.2.2.1 ≤ 100) ∧ (LoE u.2.2.2.2.2.2.2.1 sp op) ∧ (OKP G h0 a (upd (upd (upd (upd (upd (upd (upd (upd (upd (upd F 5 (nI cs)) 6 (nI rg)) 18 (nI u.2.2.2.2.2.2.2.2.1)) 19 (nI u.2.1)) 20 u.2.2.2.2.1) 21 u.2.2.2.1) 22 (nI u.2.2.2.2.2.2.2.2.2.1)) 23 u.2.2.1) 24 u.2.2.2.2.2.1) 26 (nI ht)) (updR (updR (updR (updR R 5 (.ref pq)) 6 (.ref u.2.2.2.2.2.2.2.2.2.2)) 7 (.ref (a sp))) 8 (.ref (a op))) u.2.2.2.2.2.2.1 B u.2.2.2.2.2.2.2.1 K u.1)) (fun u => u.1) := by
  intro sz
  refine Met.ofW (cc := cX5_stepOut) (maxL := 4) (ret := none) (by decide) rfl ?_
  intro p e s m args below meth c s₁ B9 hml hv
  obtain ⟨rfl, hsz, hP, hD0, hE, hX⟩ := hv
  have hx := B9.exec
  have hb := B9.bytes
  have hr := B9.returns
  have hts := atoms_spec (ws := Cond.code yX5_stepOut cX5_stepOut 4 none :: pw) B9.pre
  have hq : ∀ w ∈ pw, w.before _ s = true := fun w h => hts w (List.mem_cons_of_mem _ h)
  have hown : s.vm.findClass RX5 = some m.cls := findClass_of_methodNamed B9.named
  have hlocks := B9.notSynchronized
  subst hsz
  have hD := hD0.self (sz := s.heap.size)
  have hA : ∀ q : Nat, s.heap.size ≤ q → va_A w s.heap.size q := fun q h => Or.inr h
  generalize va_A w s.heap.size = A at hD hE hA ⊢
  have hS : va_S A s.heap s.heap [] := va_S.rf
  have hl := lv_entry ([.ref (a 5), .int 26, .int (B 17 pc), .int (B 18 pc)]) (n := 4) (Nat.le_of_ble_eq_true rfl)
  rw [lg_entry_eq]
  generalize (lg_sl ([.ref (a 5), .int 26, .int (B 17 pc), .int (B 18 pc)]) ++ List.replicate (4 - (lg_sl ([.ref (a 5), .int 26, .int (B 17 pc), .int (B 18 pc)])).length) Slot.unset).toArray = ls at hl ⊢
  have hl : lv_has ls 4 [(0, .ref (a 5)), (1, .int 26), (2, .int (B 17 pc)), (3, .int (B 18 pc))] := hl
  obtain ⟨hn1, hn2, hn3, hn4, hn5, hn6, hn7, hn8, hn9, hn10, hn11, hn12⟩ := MIy.nums hmi hmo
  have hlo := FFy.lo hmi.ff
  have hpg := hps.1
  have hp1 := hpg.1
  have hp2 := hpg.2.1
  have hp3 := hpg.2.2.1
  have hp4 := hpg.2.2.2.1
  have hp5 := hpg.2.2.2.2.1
  have hp6 := hpg.2.2.2.2.2.1
  have hp8 := hpg.2.2.2.2.2.2.2.1
  have hp9 := hpg.2.2.2.2.2.2.2.2
  have h29 : ¬ sp = 29 ∧ ¬ op = 29 := by omega
  have hht := hmi.1.2.2.2
  have hnm9 := hps.2.2.1.2.2.1
  have hnmE := hpy.1.1
  have hmw := MIy.mw hmi hmo
  have hne : ¬ B 16 pc = 0 := by rw [hop]; decide
  have hmj := hpy.2.1 j9 (by omega)
  have hr0 : yrt y j9 = 63 := hmj.2.2.2.2.2.2.2.2.2.1.trans hru
  refine lv_iload_n hx hb dX5_stepOut_0 rfl (lv_at hl 1 rfl) ?_
  refine lv_tableIn (tgt := 36) (off := 35) hx hb dX5_stepOut_1 (by decide) (by decide) (by decide) (by decide) ?_
  refine lv_aload_n hx hb dX5_stepOut_36 rfl (lv_at hl 0 rfl) ?_
  refine lv_bipush (v := (-3)) hx hb dX5_stepOut_37 (by decide) ?_
  refine lv_lconst (v := 0) hx hb dX5_stepOut_39 (by decide) ?_
  have hO : OKP G h0 a (upd (upd (upd (upd (upd (upd (upd (upd (upd (upd (upd (upd (upd (upd (upd (upd (upd F 5 (nI cs)) 6 (nI rg)) 18 (nI ba)) 19 (nI tp)) 20 (nI pc)) 21 (nI (pc + 1))) 22 (nI on)) 23 5) 26 (nI ht)) 5 (nI cs)) 6 (nI rg)) 18 (nI ba)) 19 (nI tp)) 20 (nI pc)) 22 (nI on)) 23 5) 26 (nI ht)) (updR (updR (updR (updR (updR (updR (updR (updR R 5 (.ref pq)) 6 (.ref (it j9))) 7 (.ref (a sp))) 8 (.ref (a op))) 5 (.ref pq)) 6 (.ref (it j9))) 7 (.ref (a sp))) 8 (.ref (a op))) Z B J K w := hO.to rfl
  obtain ⟨_, qr4, hqr5⟩ := hO.2.1 28 _ (sg_28 G h0 a _ _ _ _ _)
  refine pc_V0 (G := G) (As := [.int (-3), .long 0]) (rest := []) hx hb hml hown hq hE hX pX0_al hP hD hS hA hl.1 (Y_leaveR l G h0 a (upd (upd (upd (upd (upd (upd (upd (upd (upd F 5 (nI cs)) 6 (nI rg)) 18 (nI ba)) 19 (nI tp)) 20 (nI pc)) 21 (nI (pc + 1))) 22 (nI on)) 23 5) 26 (nI ht)) (updR (updR (updR (updR R 5 (.ref pq)) 6 (.ref (it j9))) 7 (.ref (a sp))) 8 (.ref (a op))) Z B J K w y Sh nn on j9 ba pc tp sp op ht fl pq dr ml nd nm cp it s9 g rk cs rg 0 hsp hmw hmo hne hle (by omega) hwp hps hrk hpy hcs9 (Or.inl ⟨0, nmV_0.symm⟩) (Or.inl hr0) hrg hO) (gV pw_719 pw_720 pw_721 pw_539 pw_718) hV_X5_leave qr4 4 hqr5 rfl rfl rfl (Nat.le_of_ble_eq_true rfl) dX5_stepOut_40 ⟨Nat.le_of_ble_eq_true rfl, Nat.le_of_ble_eq_true rfl⟩ ⟨Nat.le_of_ble_eq_true rfl, Nat.le_of_ble_eq_true rfl⟩ (fun v3 u1 H locs hw2 hP hD hS => ?_)
  obtain ⟨w, tp6, en7, nx8, pc9, rs10, J11, ba12, on13, mr14⟩ := u1
  obtain ⟨hw2, h15, h16, h17, hO⟩ := hw2
  have h15 : LvQ y it ((B 16)) ((B 19)) ((B 30)) Sh nn J11 sp ht fl (mT ((B 16)) ((B 30)) fl on pc) tp6 en7 nx8 ba12 on13 mr14 := h15
  have h16 : LoE J11 sp op := h16
  have h17 : tp6 ≤ 32000 ∧ ba12 ≤ 32000 ∧ on13 ≤ 100 := h17
  obtain rfl : v3 = none := hw2
  have hO : OKP G h0 a (upd (upd (upd (upd (upd (upd (upd (upd (upd (upd F 5 (nI cs)) 6 (nI rg)) 18 (nI ba12)) 19 (nI tp6)) 20 pc9) 21 nx8) 22 (nI on13)) 23 en7) 24 rs10) 26 (nI ht)) (updR (updR (updR (updR R 5 (.ref pq)) 6 (.ref mr14)) 7 (.ref (a sp))) 8 (.ref (a op))) Z B J11 K w := hO.to rfl
  refine W.widen (k := 0) (n := 0) (Nat.le_of_ble_eq_true rfl) (Nat.le_of_ble_eq_true rfl) ?_
  refine W.eq (g2 := F0 m 43 ls []) rfl ?_
  refine lv_goto (tgt := 116) hx hb dX5_stepOut_43 (by decide) ?_
  have hz18 : StG y it (B 16) (B 19) (mT (B 16) (B 30) fl on pc) pc tp6 en7 nx8 Z J11 fl sp op ht (B 30) on13 ba12 mr14 := (StG.ofL h15 h16 hZ)
  have hz19 : PcK Z pc9 pc := (fun z => absurd hZ z)
  have hz20 : tp6 ≤ 32000 ∧ ba12 ≤ 32000 ∧ on13 ≤ 100 := (by omega)
  have hz21 : LoE J11 sp op := h16
  have hO : OKP G h0 a (upd (upd (upd (upd (upd (upd (upd (upd (upd (upd F 5 (nI cs)) 6 (nI rg)) 18 (nI ba12)) 19 (nI tp6)) 20 pc9) 21 nx8) 22 (nI on13)) 23 en7) 24 rs10) 26 (nI ht)) (updR (updR (updR (updR R 5 (.ref pq)) 6 (.ref mr14)) 7 (.ref (a sp))) 8 (.ref (a op))) Z B J11 K w := hO.to rfl
  exact W.vret hx hb hr (fun t99 ht99 hW99 => ⟨⟨_, (w, (tp6, en7, nx8, pc9, rs10, Z, J11, ba12, on13, mr14)), rfl, ⟨rfl, hz18, hz19, hz20, hz21, hO⟩, by rw [ht99]; exact hP, hD⟩, hS.F ht99⟩) hS.2.2 dX5_stepOut_116
set_option maxHeartbeats 40000000 in
set_option maxRecDepth 100000 in
theorem Y_so27 (l : Launch) (G : pT) (h0 : Nat) (a : Nat → Nat) (F : Nat → Int32) (R : Nat → Value) (Z : Int64) (B : Nat → Nat → Int32) (J : Nat → Nat → Int64) (K : PK) (w : va_W) (y : TY) (Sh : Nat → Nat) (nn : Nat → Nat) (on : Nat) (j9 : Nat) (ba : Nat) (pc : Nat) (tp : Nat) (sp : Nat) (op : Nat) (ht : Nat) (fl : Nat) (pq : Nat) (dr : Nat) (ml : Nat) (nd : Nat) (nm : Nat) (cp : Nat) (it : Nat → Nat) (s9 : Nat) (g : Nat → Nat → Nat) (rk : Nat → Nat) (cs : Nat) (rg : Nat) (hsp : (sp = 34 ∧ op = 35) ∨ (sp = 35 ∧ op = 34)) (hmi : MIy y (B 19) Sh nn (J sp) ht (B 30) (J 29) on j9 ba pc tp) (hmo : MOy y (B 16) (B 17) (B 18) (B 19) j9) (hZ : Z = 0) (hfl : B 33 5 = nI fl) (hflb : fl ≤ 20000) (hwp : WPr G K g) (hps : PgT G K g (a 1) pq dr ml nd nm cp it s9) (hrk : RkO K rk) (hpy : PrY y K B dr nd nm it cs rg) (hle : LoE J sp op) (hrg : rg ≤ 625) (hcs9 : cs ≤ 10000) (hop : B 16 pc = nI 27) (hru : IRy y (B 16) (B 17) (B 18) pc j9 27) (hO : OKP G h0 a (upd (upd (upd (upd (upd (upd (upd (upd (upd F 5 (nI cs)) 6 (nI rg)) 18 (nI ba)) 19 (nI tp)) 20 (nI pc)) 21 (nI (pc + 1))) 22 (nI on)) 23 5) 26 (nI ht)) (updR (updR (updR (updR R 5 (.ref pq)) 6 (.ref (it j9))) 7 (.ref (a sp))) 8 (.ref (a op))) Z B J K w) : PM l G pX0 yX5_stepOut cX5_stepOut 4 none ({ frames := 40, cells := 0, slots := 0, locals := 4000 }) [.ref (a 5), .int 27, .int (B 17 pc), .int (B 18 pc)] w (fun (v : Option Value) (u : va_W × (Nat × Int32 × Int32 × Int32 × Int32 × Int64 × (Nat → Nat → Int64) × Nat × Nat × Nat)) => v = none ∧ (StG y it (B 16) (B 19) (mT (B 16) (B 30) fl on pc) pc u.2.1 u.2.2.1 u.2.2.2.1 u.2.2.2.2.2.2.1 u.2.2.2.2.2.2.2.1 fl sp op ht (B 30) u.2.2.2.2.2.2.2.2.2.1 u.2.2.2.2.2.2.2.2.1 u.2.2.2.2.2.2.2.2.2.2) ∧ (PcK u.2.2.2.2.2.2.1 u.2.2.2.2.1 pc) ∧ (u.2.1 ≤ 32000 ∧ u.2.2.2.2.2.2.2.2.1 ≤ 32000 ∧ u.2.2.2.2.2.2.2.2.2.1 ≤ 100) ∧ (LoE u.2.2.2.2.2.2.2.1 sp op) ∧ (OKP G h0 a (upd (upd (upd (upd (upd (upd (upd (upd (upd (upd F 5 (nI cs)) 6 (nI rg)) 18 (nI u.2.2.2.2.2.2.2.2.1)) 19 (nI u.2.1)) 20 u.2.2.2.2.1) 21 u.2.2.2.1) 22 (nI u.2.2.2.2.2.2.2.2.2.1)) 23 u.2.2.1) 24 u.2.2.2.2.2.1) 26 (nI ht)) (updR (updR (updR (updR R 5 (.ref pq)) 6 (.ref u.2.2.2.2.2.2.2.2.2.2)) 7 (.ref (a sp))) 8 (.ref (a op))) u.2.2.2.2.2.2.1 B u.2.2.2.2.2.2.2.1 K u.1)) (fun u => u.1) := by
  intro sz
  refine Met.ofW (cc := cX5_stepOut) (maxL := 4) (ret := none) (by decide) rfl ?_
  intro p e s m args below meth c s₁ B9 hml hv
  obtain ⟨rfl, hsz, hP, hD0, hE, hX⟩ := hv
  have hx := B9.exec
  have hb := B9.bytes
  have hr := B9.returns
  have hts := atoms_spec (ws := Cond.code yX5_stepOut cX5_stepOut 4 none :: pw) B9.pre
  have hq : ∀ w ∈ pw, w.before _ s = true := fun w h => hts w (List.mem_cons_of_mem _ h)
  have hown : s.vm.findClass RX5 = some m.cls := findClass_of_methodNamed B9.named
  have hlocks := B9.notSynchronized
  subst hsz
  have hD := hD0.self (sz := s.heap.size)
  have hA : ∀ q : Nat, s.heap.size ≤ q → va_A w s.heap.size q := fun q h => Or.inr h
  generalize va_A w s.heap.size = A at hD hE hA ⊢
  have hS : va_S A s.heap s.heap [] := va_S.rf
  have hl := lv_entry ([.ref (a 5), .int 27, .int (B 17 pc), .int (B 18 pc)]) (n := 4) (Nat.le_of_ble_eq_true rfl)
  rw [lg_entry_eq]
  generalize (lg_sl ([.ref (a 5), .int 27, .int (B 17 pc), .int (B 18 pc)]) ++ List.replicate (4 - (lg_sl ([.ref (a 5), .int 27, .int (B 17 pc), .int (B 18 pc)])).length) Slot.unset).toArray = ls at hl ⊢
  have hl : lv_has ls 4 [(0, .ref (a 5)), (1, .int 27), (2, .int (B 17 pc)), (3, .int (B 18 pc))] := hl
  obtain ⟨hn1, hn2, hn3, hn4, hn5, hn6, hn7, hn8, hn9, hn10, hn11, hn12⟩ := MIy.nums hmi hmo
  have hlo := FFy.lo hmi.ff
  have hpg := hps.1
  have hp1 := hpg.1
  have hp2 := hpg.2.1
  have hp3 := hpg.2.2.1
  have hp4 := hpg.2.2.2.1
  have hp5 := hpg.2.2.2.2.1
  have hp6 := hpg.2.2.2.2.2.1
  have hp8 := hpg.2.2.2.2.2.2.2.1
  have hp9 := hpg.2.2.2.2.2.2.2.2
  have h29 : ¬ sp = 29 ∧ ¬ op = 29 := by omega
  have hht := hmi.1.2.2.2
  have hnm9 := hps.2.2.1.2.2.1
  have hnmE := hpy.1.1
  have hmw := MIy.mw hmi hmo
  have hne : ¬ B 16 pc = 0 := by rw [hop]; decide
  have hmj := hpy.2.1 j9 (by omega)
  obtain ⟨t9, os, r1, r2, r3⟩ := hru
  obtain ⟨hv1, hv2, hv3, hv4⟩ := FFy.pop hmi.ff r1
  have hvr : VT (yfi y) Sh (yrt y j9) (J 29 (tp - 1)) := by rw [hmj.2.2.2.2.2.2.2.2.2.1]; exact r2 _ _ hv3
  refine lv_iload_n hx hb dX5_stepOut_0 rfl (lv_at hl 1 rfl) ?_
  refine lv_tableIn (tgt := 46) (off := 45) hx hb dX5_stepOut_1 (by decide) (by decide) (by decide) (by decide) ?_
  refine lv_aload_n hx hb dX5_stepOut_46 rfl (lv_at hl 0 rfl) ?_
  refine lv_bipush (v := (-3)) hx hb dX5_stepOut_47 (by decide) ?_
  refine lv_aload_n hx hb dX5_stepOut_49 rfl (lv_at hl 0 rfl) ?_
  have hO : OKW G h0 a (upd (upd (upd (upd (upd (upd (upd (upd (upd (upd F 5 (nI cs)) 6 (nI rg)) 18 (nI ba)) 19 (nI tp)) 20 (nI pc)) 21 (nI (pc + 1))) 22 (nI on)) 23 5) 26 (nI ht)) 19 (nI tp)) (updR (updR (updR (updR R 5 (.ref pq)) 6 (.ref (it j9))) 7 (.ref (a sp))) 8 (.ref (a op))) Z B J K.1 (fun q99 x99 => x99 = rep G a K q99) w := hO.to rfl
  obtain ⟨_, qr4, hqr5⟩ := hO.2.1 28 _ (sg_28 G h0 a _ _ _ _ _)
  refine pc_V0 (G := G) (As := []) (rest := [.int (-3), .ref (a 5)]) hx hb hml hown hq hE hX pX0_al hP hD hS hA hl.1 (Y_pop l G h0 a (upd (upd (upd (upd (upd (upd (upd (upd (upd F 5 (nI cs)) 6 (nI rg)) 18 (nI ba)) 19 (nI tp)) 20 (nI pc)) 21 (nI (pc + 1))) 22 (nI on)) 23 5) 26 (nI ht)) (updR (updR (updR (updR R 5 (.ref pq)) 6 (.ref (it j9))) 7 (.ref (a sp))) 8 (.ref (a op))) Z B J K.1 (fun q99 x99 => x99 = rep G a K q99) w tp (by omega) hO) (gV pw_598 pw_599 pw_600 pw_539 pw_595) hV_X5_pop qr4 4 hqr5 rfl rfl rfl (Nat.le_of_ble_eq_true rfl) dX5_stepOut_50 ⟨Nat.le_of_ble_eq_true rfl, Nat.le_of_ble_eq_true rfl⟩ ⟨Nat.le_of_ble_eq_true rfl, Nat.le_of_ble_eq_true rfl⟩ (fun v3 u1 H locs hw2 hP hD hS => ?_)
  obtain ⟨w, _⟩ := u1
  obtain ⟨hw2, hO⟩ := hw2
  obtain rfl : v3 = some (.long ((J 29) (tp - 1))) := hw2
  have hO : OKP G h0 a (upd (upd (upd (upd (upd (upd (upd (upd (upd F 5 (nI cs)) 6 (nI rg)) 18 (nI ba)) 19 (nI (tp - 1))) 20 (nI pc)) 21 (nI (pc + 1))) 22 (nI on)) 23 5) 26 (nI ht)) (updR (updR (updR (updR R 5 (.ref pq)) 6 (.ref (it j9))) 7 (.ref (a sp))) 8 (.ref (a op))) Z B J K w := hO.to rfl
  refine W.widen (k := 0) (n := 0) (Nat.le_of_ble_eq_true rfl) (Nat.le_of_ble_eq_true rfl) ?_
  refine W.eq (g2 := F0 m 53 ls [.long ((J 29) (tp - 1)), .int (-3), .ref (a 5)]) rfl ?_
  have hO : OKP G h0 a (upd (upd (upd (upd (upd (upd (upd (upd (upd (upd (upd (upd (upd (upd (upd (upd (upd F 5 (nI cs)) 6 (nI rg)) 18 (nI ba)) 19 (nI (tp - 1))) 20 (nI pc)) 21 (nI (pc + 1))) 22 (nI on)) 23 5) 26 (nI ht)) 5 (nI cs)) 6 (nI rg)) 18 (nI ba)) 19 (nI (tp - 1))) 20 (nI pc)) 22 (nI on)) 23 5) 26 (nI ht)) (updR (updR (updR (updR (updR (updR (updR (updR R 5 (.ref pq)) 6 (.ref (it j9))) 7 (.ref (a sp))) 8 (.ref (a op))) 5 (.ref pq)) 6 (.ref (it j9))) 7 (.ref (a sp))) 8 (.ref (a op))) Z B J K w := hO.to rfl
  obtain ⟨_, qr9, hqr10⟩ := hO.2.1 28 _ (sg_28 G h0 a _ _ _ _ _)
  refine pc_V0 (G := G) (As := [.int (-3), .long ((J 29) (tp - 1))]) (rest := []) hx hb hml hown hq hE hX pX0_al hP hD hS hA hl.1 (Y_leaveR l G h0 a (upd (upd (upd (upd (upd (upd (upd (upd (upd F 5 (nI cs)) 6 (nI rg)) 18 (nI ba)) 19 (nI (tp - 1))) 20 (nI pc)) 21 (nI (pc + 1))) 22 (nI on)) 23 5) 26 (nI ht)) (updR (updR (updR (updR R 5 (.ref pq)) 6 (.ref (it j9))) 7 (.ref (a sp))) 8 (.ref (a op))) Z B J K w y Sh nn on j9 ba pc (tp - 1) sp op ht fl pq dr ml nd nm cp it s9 g rk cs rg ((J 29) (tp - 1)) hsp hmw hmo hne hle (by omega) hwp hps hrk hpy hcs9 hvr.ok (Or.inr hvr) hrg hO) (gV pw_719 pw_720 pw_721 pw_539 pw_718) hV_X5_leave qr9 4 hqr10 rfl rfl rfl (Nat.le_of_ble_eq_true rfl) dX5_stepOut_53 ⟨Nat.le_of_ble_eq_true rfl, Nat.le_of_ble_eq_true rfl⟩ ⟨Nat.le_of_ble_eq_true rfl, Nat.le_of_ble_eq_true rfl⟩ (fun v8 u6 H locs hw7 hP hD hS => ?_)
  obtain ⟨w, tp11, en12, nx13, pc14, rs15, J16, ba17, on18, mr19⟩ := u6
  obtain ⟨hw7, h20, h21, h22, hO⟩ := hw7
  have h20 : LvQ y it ((B 16)) ((B 19)) ((B 30)) Sh nn J16 sp ht fl (mT ((B 16)) ((B 30)) fl on pc) tp11 en12 nx13 ba17 on18 mr19 := h20
  have h21 : LoE J16 sp op := h21
  have h22 : tp11 ≤ 32000 ∧ ba17 ≤ 32000 ∧ on18 ≤ 100 := h22
  obtain rfl : v8 = none := hw7
  have hO : OKP G h0 a (upd (upd (upd (upd (upd (upd (upd (upd (upd (upd F 5 (nI cs)) 6 (nI rg)) 18 (nI ba17)) 19 (nI tp11)) 20 pc14) 21 nx13) 22 (nI on18)) 23 en12) 24 rs15) 26 (nI ht)) (updR (updR (updR (updR R 5 (.ref pq)) 6 (.ref mr19)) 7 (.ref (a sp))) 8 (.ref (a op))) Z B J16 K w := hO.to rfl
  refine W.widen (k := 0) (n := 0) (Nat.le_of_ble_eq_true rfl) (Nat.le_of_ble_eq_true rfl) ?_
  refine W.eq (g2 := F0 m 56 ls []) rfl ?_
  refine lv_goto (tgt := 116) hx hb dX5_stepOut_56 (by decide) ?_
  have hz23 : StG y it (B 16) (B 19) (mT (B 16) (B 30) fl on pc) pc tp11 en12 nx13 Z J16 fl sp op ht (B 30) on18 ba17 mr19 := (StG.ofL h20 h21 hZ)
  have hz24 : PcK Z pc14 pc := (fun z => absurd hZ z)
  have hz25 : tp11 ≤ 32000 ∧ ba17 ≤ 32000 ∧ on18 ≤ 100 := (by omega)
  have hz26 : LoE J16 sp op := h21
  have hO : OKP G h0 a (upd (upd (upd (upd (upd (upd (upd (upd (upd (upd F 5 (nI cs)) 6 (nI rg)) 18 (nI ba17)) 19 (nI tp11)) 20 pc14) 21 nx13) 22 (nI on18)) 23 en12) 24 rs15) 26 (nI ht)) (updR (updR (updR (updR R 5 (.ref pq)) 6 (.ref mr19)) 7 (.ref (a sp))) 8 (.ref (a op))) Z B J16 K w := hO.to rfl
  exact W.vret hx hb hr (fun t99 ht99 hW99 => ⟨⟨_, (w, (tp11, en12, nx13, pc14, rs15, Z, J16, ba17, on18, mr19)), rfl, ⟨rfl, hz23, hz24, hz25, hz26, hO⟩, by rw [ht99]; exact hP, hD⟩, hS.F ht99⟩) hS.2.2 dX5_stepOut_116
set_option maxHeartbeats 40000000 in
set_option maxRecDepth 100000 in
theorem Y_so28 (l : Launch) (G : pT) (h0 : Nat) (a : Nat → Nat) (F : Nat → Int32) (R : Nat → Value) (Z : Int64) (B : Nat → Nat → Int32) (J : Nat → Nat → Int64) (K : PK) (w : va_W) (y : TY) (Sh : Nat → Nat) (nn : Nat → Nat) (on : Nat) (j9 : Nat) (ba : Nat) (pc : Nat) (tp : Nat) (sp : Nat) (op : Nat) (ht : Nat) (fl : Nat) (pq : Nat) (dr : Nat) (ml : Nat) (nd : Nat) (nm : Nat) (cp : Nat) (it : Nat → Nat) (s9 : Nat) (g : Nat → Nat → Nat) (rk : Nat → Nat) (cs : Nat) (rg : Nat) (hsp : (sp = 34 ∧ op = 35) ∨ (sp = 35 ∧ op = 34)) (hmi : MIy y (B 19) Sh nn (J sp) ht (B 30) (J 29) on j9 ba pc tp) (hmo : MOy y (B 16) (B 17) (B 18) (B 19) j9) (hZ : Z = 0) (hfl : B 33 5 = nI fl) (hflb : fl ≤ 20000) (hwp : WPr G K g) (hps : PgT G K g (a 1) pq dr ml nd nm cp it s9) (hrk : RkO K rk) (hpy : PrY y K B dr nd nm it cs rg) (hle : LoE J sp op) (hrg : rg ≤ 625) (hcs9 : cs ≤ 10000) (hop : B 16 pc = nI 28) (hru : IRy y (B 16) (B 17) (B 18) pc j9 28) (hO : OKP G h0 a (upd (upd (upd (upd (upd (upd (upd (upd (upd F 5 (nI cs)) 6 (nI rg)) 18 (nI ba)) 19 (nI tp)) 20 (nI pc)) 21 (nI (pc + 1))) 22 (nI on)) 23 5) 26 (nI ht)) (updR (updR (updR (updR R 5 (.ref pq)) 6 (.ref (it j9))) 7 (.ref (a sp))) 8 (.ref (a op))) Z B J K w) : PM l G pX0 yX5_stepOut cX5_stepOut 4 none ({ frames := 40, cells := 0, slots := 0, locals := 4000 }) [.ref (a 5), .int 28, .int (B 17 pc), .int (B 18 pc)] w (fun (v : Option Value) (u : va_W × (Nat × Int32 × Int32 × Int32 × Int32 × Int64 × (Nat → Nat → Int64) × Nat × Nat × Nat)) => v = none ∧ (StG y it (B 16) (B 19) (mT (B 16) (B 30) fl on pc) pc u.2.1 u.2.2.1 u.2.2.2.1 u.2.2.2.2.2.2.1 u.2.2.2.2.2.2.2.1 fl sp op ht (B 30) u.2.2.2.2.2.2.2.2.2.1 u.2.2.2.2.2.2.2.2.1 u.2.2.2.2.2.2.2.2.2.2) ∧ (PcK u.2.2.2.2.2.2.1 u.2.2.2.2.1 pc) ∧ (u.2.1 ≤ 32000 ∧ u.2.2.2.2.2.2.2.2.1 ≤ 32000 ∧ u.2.2.2.2.2.2.2.2.2.1 ≤ 100) ∧ (LoE u.2.2.2.2.2.2.2.1 sp op) ∧ (OKP G h0 a (upd (upd (upd (upd (upd (upd (upd (upd (upd (upd F 5 (nI cs)) 6 (nI rg)) 18 (nI u.2.2.2.2.2.2.2.2.1)) 19 (nI u.2.1)) 20 u.2.2.2.2.1) 21 u.2.2.2.1) 22 (nI u.2.2.2.2.2.2.2.2.2.1)) 23 u.2.2.1) 24 u.2.2.2.2.2.1) 26 (nI ht)) (updR (updR (updR (updR R 5 (.ref pq)) 6 (.ref u.2.2.2.2.2.2.2.2.2.2)) 7 (.ref (a sp))) 8 (.ref (a op))) u.2.2.2.2.2.2.1 B u.2.2.2.2.2.2.2.1 K u.1)) (fun u => u.1) := by
  intro sz
  refine Met.ofW (cc := cX5_stepOut) (maxL := 4) (ret := none) (by decide) rfl ?_
  intro p e s m args below meth c s₁ B9 hml hv
  obtain ⟨rfl, hsz, hP, hD0, hE, hX⟩ := hv
  have hx := B9.exec
  have hb := B9.bytes
  have hr := B9.returns
  have hts := atoms_spec (ws := Cond.code yX5_stepOut cX5_stepOut 4 none :: pw) B9.pre
  have hq : ∀ w ∈ pw, w.before _ s = true := fun w h => hts w (List.mem_cons_of_mem _ h)
  have hown : s.vm.findClass RX5 = some m.cls := findClass_of_methodNamed B9.named
  have hlocks := B9.notSynchronized
  subst hsz
  have hD := hD0.self (sz := s.heap.size)
  have hA : ∀ q : Nat, s.heap.size ≤ q → va_A w s.heap.size q := fun q h => Or.inr h
  generalize va_A w s.heap.size = A at hD hE hA ⊢
  have hS : va_S A s.heap s.heap [] := va_S.rf
  have hl := lv_entry ([.ref (a 5), .int 28, .int (B 17 pc), .int (B 18 pc)]) (n := 4) (Nat.le_of_ble_eq_true rfl)
  rw [lg_entry_eq]
  generalize (lg_sl ([.ref (a 5), .int 28, .int (B 17 pc), .int (B 18 pc)]) ++ List.replicate (4 - (lg_sl ([.ref (a 5), .int 28, .int (B 17 pc), .int (B 18 pc)])).length) Slot.unset).toArray = ls at hl ⊢
  have hl : lv_has ls 4 [(0, .ref (a 5)), (1, .int 28), (2, .int (B 17 pc)), (3, .int (B 18 pc))] := hl
  obtain ⟨hn1, hn2, hn3, hn4, hn5, hn6, hn7, hn8, hn9, hn10, hn11, hn12⟩ := MIy.nums hmi hmo
  have hlo := FFy.lo hmi.ff
  have hpg := hps.1
  have hp1 := hpg.1
  have hp2 := hpg.2.1
  have hp3 := hpg.2.2.1
  have hp4 := hpg.2.2.2.1
  have hp5 := hpg.2.2.2.2.1
  have hp6 := hpg.2.2.2.2.2.1
  have hp8 := hpg.2.2.2.2.2.2.2.1
  have hp9 := hpg.2.2.2.2.2.2.2.2
  have h29 : ¬ sp = 29 ∧ ¬ op = 29 := by omega
  have hht := hmi.1.2.2.2
  have hnm9 := hps.2.2.1.2.2.1
  have hnmE := hpy.1.1
  have hmw := MIy.mw hmi hmo
  have hne : ¬ B 16 pc = 0 := by rw [hop]; decide
  have hmj := hpy.2.1 j9 (by omega)
  obtain ⟨x9, r0, r1, r2, r3, r4⟩ := hru
  obtain ⟨hjx, hwx⟩ := MIy.leave hmi hmo hop r0 r1 r2 r3 r4
  have hxt : x9 < yhi y j9 := MO.tgt hmo r4 r2
  rw [r1] at hl
  refine lv_iload_n hx hb dX5_stepOut_0 rfl (lv_at hl 1 rfl) ?_
  refine lv_tableIn (tgt := 59) (off := 58) hx hb dX5_stepOut_1 (by decide) (by decide) (by decide) (by decide) ?_
  refine lv_aload_n hx hb dX5_stepOut_59 rfl (lv_at hl 0 rfl) ?_
  refine lv_iload_n hx hb dX5_stepOut_60 rfl (lv_at hl 2 rfl) ?_
  refine lv_lconst (v := 0) hx hb dX5_stepOut_61 (by decide) ?_
  have hO : OKP G h0 a (upd (upd (upd (upd (upd (upd (upd (upd (upd (upd (upd (upd (upd (upd (upd (upd (upd F 5 (nI cs)) 6 (nI rg)) 18 (nI ba)) 19 (nI tp)) 20 (nI pc)) 21 (nI (pc + 1))) 22 (nI on)) 23 5) 26 (nI ht)) 5 (nI cs)) 6 (nI rg)) 18 (nI ba)) 19 (nI tp)) 20 (nI pc)) 22 (nI on)) 23 5) 26 (nI ht)) (updR (updR (updR (updR (updR (updR (updR (updR R 5 (.ref pq)) 6 (.ref (it j9))) 7 (.ref (a sp))) 8 (.ref (a op))) 5 (.ref pq)) 6 (.ref (it j9))) 7 (.ref (a sp))) 8 (.ref (a op))) Z B J K w := hO.to rfl
  obtain ⟨_, qr4, hqr5⟩ := hO.2.1 28 _ (sg_28 G h0 a _ _ _ _ _)
  refine pc_V0 (G := G) (As := [.int (nI x9), .long 0]) (rest := []) hx hb hml hown hq hE hX pX0_al hP hD hS hA hl.1 (Y_leaveJ l G h0 a (upd (upd (upd (upd (upd (upd (upd (upd (upd F 5 (nI cs)) 6 (nI rg)) 18 (nI ba)) 19 (nI tp)) 20 (nI pc)) 21 (nI (pc + 1))) 22 (nI on)) 23 5) 26 (nI ht)) (updR (updR (updR (updR R 5 (.ref pq)) 6 (.ref (it j9))) 7 (.ref (a sp))) 8 (.ref (a op))) Z B J K w y Sh nn on j9 ba pc tp sp op ht fl pq dr ml nd nm cp it s9 g rk cs rg 0 x9 hsp hmw hmo hne hle (by omega) hwp hps hrk hpy hcs9 (Or.inl ⟨0, nmV_0.symm⟩) hjx ⟨r3, by omega⟩ hwx hrg hO) (gV pw_719 pw_720 pw_721 pw_539 pw_718) hV_X5_leave qr4 4 hqr5 rfl rfl rfl (Nat.le_of_ble_eq_true rfl) dX5_stepOut_62 ⟨Nat.le_of_ble_eq_true rfl, Nat.le_of_ble_eq_true rfl⟩ ⟨Nat.le_of_ble_eq_true rfl, Nat.le_of_ble_eq_true rfl⟩ (fun v3 u1 H locs hw2 hP hD hS => ?_)
  obtain ⟨w, tp6, en7, nx8, pc9, rs10, J11, ba12, on13, mr14⟩ := u1
  obtain ⟨hw2, h15, h16, h17, hO⟩ := hw2
  have h15 : LvQ y it ((B 16)) ((B 19)) ((B 30)) Sh nn J11 sp ht fl (mT ((B 16)) ((B 30)) fl on pc) tp6 en7 nx8 ba12 on13 mr14 := h15
  have h16 : LoE J11 sp op := h16
  have h17 : tp6 ≤ 32000 ∧ ba12 ≤ 32000 ∧ on13 ≤ 100 := h17
  obtain rfl : v3 = none := hw2
  have hO : OKP G h0 a (upd (upd (upd (upd (upd (upd (upd (upd (upd (upd F 5 (nI cs)) 6 (nI rg)) 18 (nI ba12)) 19 (nI tp6)) 20 pc9) 21 nx8) 22 (nI on13)) 23 en7) 24 rs10) 26 (nI ht)) (updR (updR (updR (updR R 5 (.ref pq)) 6 (.ref mr14)) 7 (.ref (a sp))) 8 (.ref (a op))) Z B J11 K w := hO.to rfl
  refine W.widen (k := 0) (n := 0) (Nat.le_of_ble_eq_true rfl) (Nat.le_of_ble_eq_true rfl) ?_
  refine W.eq (g2 := F0 m 65 ls []) rfl ?_
  refine lv_goto (tgt := 116) hx hb dX5_stepOut_65 (by decide) ?_
  have hz18 : StG y it (B 16) (B 19) (mT (B 16) (B 30) fl on pc) pc tp6 en7 nx8 Z J11 fl sp op ht (B 30) on13 ba12 mr14 := (StG.ofL h15 h16 hZ)
  have hz19 : PcK Z pc9 pc := (fun z => absurd hZ z)
  have hz20 : tp6 ≤ 32000 ∧ ba12 ≤ 32000 ∧ on13 ≤ 100 := (by omega)
  have hz21 : LoE J11 sp op := h16
  have hO : OKP G h0 a (upd (upd (upd (upd (upd (upd (upd (upd (upd (upd F 5 (nI cs)) 6 (nI rg)) 18 (nI ba12)) 19 (nI tp6)) 20 pc9) 21 nx8) 22 (nI on13)) 23 en7) 24 rs10) 26 (nI ht)) (updR (updR (updR (updR R 5 (.ref pq)) 6 (.ref mr14)) 7 (.ref (a sp))) 8 (.ref (a op))) Z B J11 K w := hO.to rfl
  exact W.vret hx hb hr (fun t99 ht99 hW99 => ⟨⟨_, (w, (tp6, en7, nx8, pc9, rs10, Z, J11, ba12, on13, mr14)), rfl, ⟨rfl, hz18, hz19, hz20, hz21, hO⟩, by rw [ht99]; exact hP, hD⟩, hS.F ht99⟩) hS.2.2 dX5_stepOut_116
set_option maxHeartbeats 40000000 in
set_option maxRecDepth 100000 in
theorem Y_so29 (l : Launch) (G : pT) (h0 : Nat) (a : Nat → Nat) (F : Nat → Int32) (R : Nat → Value) (Z : Int64) (B : Nat → Nat → Int32) (J : Nat → Nat → Int64) (K : PK) (w : va_W) (y : TY) (Sh : Nat → Nat) (nn : Nat → Nat) (on : Nat) (j9 : Nat) (ba : Nat) (pc : Nat) (tp : Nat) (sp : Nat) (op : Nat) (ht : Nat) (fl : Nat) (pq : Nat) (dr : Nat) (ml : Nat) (nd : Nat) (nm : Nat) (cp : Nat) (it : Nat → Nat) (s9 : Nat) (g : Nat → Nat → Nat) (rk : Nat → Nat) (cs : Nat) (rg : Nat) (hsp : (sp = 34 ∧ op = 35) ∨ (sp = 35 ∧ op = 34)) (hmi : MIy y (B 19) Sh nn (J sp) ht (B 30) (J 29) on j9 ba pc tp) (hmo : MOy y (B 16) (B 17) (B 18) (B 19) j9) (hZ : Z = 0) (hfl : B 33 5 = nI fl) (hflb : fl ≤ 20000) (hwp : WPr G K g) (hps : PgT G K g (a 1) pq dr ml nd nm cp it s9) (hrk : RkO K rk) (hpy : PrY y K B dr nd nm it cs rg) (hle : LoE J sp op) (hrg : rg ≤ 625) (hcs9 : cs ≤ 10000) (hop : B 16 pc = nI 29) (hru : IRy y (B 16) (B 17) (B 18) pc j9 29) (hO : OKP G h0 a (upd (upd (upd (upd (upd (upd (upd (upd (upd F 5 (nI cs)) 6 (nI rg)) 18 (nI ba)) 19 (nI tp)) 20 (nI pc)) 21 (nI (pc + 1))) 22 (nI on)) 23 5) 26 (nI ht)) (updR (updR (updR (updR R 5 (.ref pq)) 6 (.ref (it j9))) 7 (.ref (a sp))) 8 (.ref (a op))) Z B J K w) : PM l G pX0 yX5_stepOut cX5_stepOut 4 none ({ frames := 40, cells := 0, slots := 0, locals := 4000 }) [.ref (a 5), .int 29, .int (B 17 pc), .int (B 18 pc)] w (fun (v : Option Value) (u : va_W × (Nat × Int32 × Int32 × Int32 × Int32 × Int64 × (Nat → Nat → Int64) × Nat × Nat × Nat)) => v = none ∧ (StG y it (B 16) (B 19) (mT (B 16) (B 30) fl on pc) pc u.2.1 u.2.2.1 u.2.2.2.1 u.2.2.2.2.2.2.1 u.2.2.2.2.2.2.2.1 fl sp op ht (B 30) u.2.2.2.2.2.2.2.2.2.1 u.2.2.2.2.2.2.2.2.1 u.2.2.2.2.2.2.2.2.2.2) ∧ (PcK u.2.2.2.2.2.2.1 u.2.2.2.2.1 pc) ∧ (u.2.1 ≤ 32000 ∧ u.2.2.2.2.2.2.2.2.1 ≤ 32000 ∧ u.2.2.2.2.2.2.2.2.2.1 ≤ 100) ∧ (LoE u.2.2.2.2.2.2.2.1 sp op) ∧ (OKP G h0 a (upd (upd (upd (upd (upd (upd (upd (upd (upd (upd F 5 (nI cs)) 6 (nI rg)) 18 (nI u.2.2.2.2.2.2.2.2.1)) 19 (nI u.2.1)) 20 u.2.2.2.2.1) 21 u.2.2.2.1) 22 (nI u.2.2.2.2.2.2.2.2.2.1)) 23 u.2.2.1) 24 u.2.2.2.2.2.1) 26 (nI ht)) (updR (updR (updR (updR R 5 (.ref pq)) 6 (.ref u.2.2.2.2.2.2.2.2.2.2)) 7 (.ref (a sp))) 8 (.ref (a op))) u.2.2.2.2.2.2.1 B u.2.2.2.2.2.2.2.1 K u.1)) (fun u => u.1) := by
  intro sz
  refine Met.ofW (cc := cX5_stepOut) (maxL := 4) (ret := none) (by decide) rfl ?_
  intro p e s m args below meth c s₁ B9 hml hv
  obtain ⟨rfl, hsz, hP, hD0, hE, hX⟩ := hv
  have hx := B9.exec
  have hb := B9.bytes
  have hr := B9.returns
  have hts := atoms_spec (ws := Cond.code yX5_stepOut cX5_stepOut 4 none :: pw) B9.pre
  have hq : ∀ w ∈ pw, w.before _ s = true := fun w h => hts w (List.mem_cons_of_mem _ h)
  have hown : s.vm.findClass RX5 = some m.cls := findClass_of_methodNamed B9.named
  have hlocks := B9.notSynchronized
  subst hsz
  have hD := hD0.self (sz := s.heap.size)
  have hA : ∀ q : Nat, s.heap.size ≤ q → va_A w s.heap.size q := fun q h => Or.inr h
  generalize va_A w s.heap.size = A at hD hE hA ⊢
  have hS : va_S A s.heap s.heap [] := va_S.rf
  have hl := lv_entry ([.ref (a 5), .int 29, .int (B 17 pc), .int (B 18 pc)]) (n := 4) (Nat.le_of_ble_eq_true rfl)
  rw [lg_entry_eq]
  generalize (lg_sl ([.ref (a 5), .int 29, .int (B 17 pc), .int (B 18 pc)]) ++ List.replicate (4 - (lg_sl ([.ref (a 5), .int 29, .int (B 17 pc), .int (B 18 pc)])).length) Slot.unset).toArray = ls at hl ⊢
  have hl : lv_has ls 4 [(0, .ref (a 5)), (1, .int 29), (2, .int (B 17 pc)), (3, .int (B 18 pc))] := hl
  obtain ⟨hn1, hn2, hn3, hn4, hn5, hn6, hn7, hn8, hn9, hn10, hn11, hn12⟩ := MIy.nums hmi hmo
  have hlo := FFy.lo hmi.ff
  have hpg := hps.1
  have hp1 := hpg.1
  have hp2 := hpg.2.1
  have hp3 := hpg.2.2.1
  have hp4 := hpg.2.2.2.1
  have hp5 := hpg.2.2.2.2.1
  have hp6 := hpg.2.2.2.2.2.1
  have hp8 := hpg.2.2.2.2.2.2.2.1
  have hp9 := hpg.2.2.2.2.2.2.2.2
  have h29 : ¬ sp = 29 ∧ ¬ op = 29 := by omega
  have hht := hmi.1.2.2.2
  have hnm9 := hps.2.2.1.2.2.1
  have hnmE := hpy.1.1
  have hmw := MIy.mw hmi hmo
  have hne : ¬ B 16 pc = 0 := by rw [hop]; decide
  have hmj := hpy.2.1 j9 (by omega)
  obtain ⟨x9, s7, r0, r1, r2, r3, r4, r5, r6⟩ := hru
  rw [r0] at hl
  rw [r1] at hl
  refine lv_iload_n hx hb dX5_stepOut_0 rfl (lv_at hl 1 rfl) ?_
  refine lv_tableIn (tgt := 68) (off := 67) hx hb dX5_stepOut_1 (by decide) (by decide) (by decide) (by decide) ?_
  refine lv_aload_n hx hb dX5_stepOut_68 rfl (lv_at hl 0 rfl) ?_
  refine lv_iload_n hx hb dX5_stepOut_69 rfl (lv_at hl 3 rfl) ?_
  refine lv_ldc2 (v := 4294967295) hx hb hown (hq _ pw_603) dX5_stepOut_70 ?_
  have hO : OKW G h0 a (upd (upd (upd (upd (upd (upd (upd (upd (upd (upd F 5 (nI cs)) 6 (nI rg)) 18 (nI ba)) 19 (nI tp)) 20 (nI pc)) 21 (nI (pc + 1))) 22 (nI on)) 23 5) 26 (nI ht)) 18 (nI ba)) (updR (updR (updR (updR R 5 (.ref pq)) 6 (.ref (it j9))) 7 (.ref (a sp))) 8 (.ref (a op))) Z B J K.1 (fun q99 x99 => x99 = rep G a K q99) w := hO.to rfl
  obtain ⟨_, qr4, hqr5⟩ := hO.2.1 28 _ (sg_28 G h0 a _ _ _ _ _)
  refine pc_V0 (G := G) (As := [.int (nI s7), .long 4294967295]) (rest := []) hx hb hml hown hq hE hX pX0_al hP hD hS hA hl.1 (Y_setSlot l G h0 a (upd (upd (upd (upd (upd (upd (upd (upd (upd F 5 (nI cs)) 6 (nI rg)) 18 (nI ba)) 19 (nI tp)) 20 (nI pc)) 21 (nI (pc + 1))) 22 (nI on)) 23 5) 26 (nI ht)) (updR (updR (updR (updR R 5 (.ref pq)) 6 (.ref (it j9))) 7 (.ref (a sp))) 8 (.ref (a op))) Z B J K.1 (fun q99 x99 => x99 = rep G a K q99) w ba s7 4294967295 (by omega) hO) (gV pw_625 pw_626 pw_627 pw_539 pw_596) hV_X5_setSlot qr4 4 hqr5 rfl rfl rfl (Nat.le_of_ble_eq_true rfl) dX5_stepOut_73 ⟨Nat.le_of_ble_eq_true rfl, Nat.le_of_ble_eq_true rfl⟩ ⟨Nat.le_of_ble_eq_true rfl, Nat.le_of_ble_eq_true rfl⟩ (fun v3 u1 H locs hw2 hP hD hS => ?_)
  obtain ⟨w, _⟩ := u1
  obtain ⟨hw2, hO⟩ := hw2
  obtain rfl : v3 = none := hw2
  have hO : OKP G h0 a (upd (upd (upd (upd (upd (upd (upd (upd (upd F 5 (nI cs)) 6 (nI rg)) 18 (nI ba)) 19 (nI tp)) 20 (nI pc)) 21 (nI (pc + 1))) 22 (nI on)) 23 5) 26 (nI ht)) (updR (updR (updR (updR R 5 (.ref pq)) 6 (.ref (it j9))) 7 (.ref (a sp))) 8 (.ref (a op))) Z B (updJ J 29 (vp_updL ((J 29)) (ba + s7) 4294967295)) K w := hO.to rfl
  refine W.widen (k := 0) (n := 0) (Nat.le_of_ble_eq_true rfl) (Nat.le_of_ble_eq_true rfl) ?_
  refine W.eq (g2 := F0 m 76 ls []) rfl ?_
  refine lv_aload_n hx hb dX5_stepOut_76 rfl (lv_at hl 0 rfl) ?_
  refine lv_iload_n hx hb dX5_stepOut_77 rfl (lv_at hl 3 rfl) ?_
  refine lv_iconst (v := 1) hx hb dX5_stepOut_78 (by decide) ?_
  refine lv_iadd hx hb dX5_stepOut_79 ?_
  refine lv_topi (fun x6 e7 => ?_)
  obtain rfl : x6 = nI (s7 + 1) := e7.trans (nI_add (s7) (1))
  refine lv_lconst (v := 0) hx hb dX5_stepOut_80 (by decide) ?_
  have hO : OKW G h0 a (upd (upd (upd (upd (upd (upd (upd (upd (upd (upd F 5 (nI cs)) 6 (nI rg)) 18 (nI ba)) 19 (nI tp)) 20 (nI pc)) 21 (nI (pc + 1))) 22 (nI on)) 23 5) 26 (nI ht)) 18 (nI ba)) (updR (updR (updR (updR R 5 (.ref pq)) 6 (.ref (it j9))) 7 (.ref (a sp))) 8 (.ref (a op))) Z B (updJ J 29 (vp_updL ((J 29)) (ba + s7) 4294967295)) K.1 (fun q99 x99 => x99 = rep G a K q99) w := hO.to rfl
  obtain ⟨_, qr11, hqr12⟩ := hO.2.1 28 _ (sg_28 G h0 a _ _ _ _ _)
  refine pc_V0 (G := G) (As := [.int (nI (s7 + 1)), .long 0]) (rest := []) hx hb hml hown hq hE hX pX0_al hP hD hS hA hl.1 (Y_setSlot l G h0 a (upd (upd (upd (upd (upd (upd (upd (upd (upd F 5 (nI cs)) 6 (nI rg)) 18 (nI ba)) 19 (nI tp)) 20 (nI pc)) 21 (nI (pc + 1))) 22 (nI on)) 23 5) 26 (nI ht)) (updR (updR (updR (updR R 5 (.ref pq)) 6 (.ref (it j9))) 7 (.ref (a sp))) 8 (.ref (a op))) Z B (updJ J 29 (vp_updL ((J 29)) (ba + s7) 4294967295)) K.1 (fun q99 x99 => x99 = rep G a K q99) w ba (s7 + 1) 0 (by omega) hO) (gV pw_625 pw_626 pw_627 pw_539 pw_596) hV_X5_setSlot qr11 4 hqr12 rfl rfl rfl (Nat.le_of_ble_eq_true rfl) dX5_stepOut_81 ⟨Nat.le_of_ble_eq_true rfl, Nat.le_of_ble_eq_true rfl⟩ ⟨Nat.le_of_ble_eq_true rfl, Nat.le_of_ble_eq_true rfl⟩ (fun v10 u8 H locs hw9 hP hD hS => ?_)
  obtain ⟨w, _⟩ := u8
  obtain ⟨hw9, hO⟩ := hw9
  obtain rfl : v10 = none := hw9
  have hO : OKP G h0 a (upd (upd (upd (upd (upd (upd (upd (upd (upd F 5 (nI cs)) 6 (nI rg)) 18 (nI ba)) 19 (nI tp)) 20 (nI pc)) 21 (nI (pc + 1))) 22 (nI on)) 23 5) 26 (nI ht)) (updR (updR (updR (updR R 5 (.ref pq)) 6 (.ref (it j9))) 7 (.ref (a sp))) 8 (.ref (a op))) Z B (updJ J 29 (vp_updL ((vp_updL ((J 29)) (ba + s7) 4294967295)) (ba + (s7 + 1)) 0)) K w := hO.to rfl
  refine W.widen (k := 0) (n := 0) (Nat.le_of_ble_eq_true rfl) (Nat.le_of_ble_eq_true rfl) ?_
  refine W.eq (g2 := F0 m 84 ls []) rfl ?_
  refine lv_aload_n hx hb dX5_stepOut_84 rfl (lv_at hl 0 rfl) ?_
  refine lv_iload_n hx hb dX5_stepOut_85 rfl (lv_at hl 2 rfl) ?_
  refine c_put (v := .int (nI x9)) (ty := .int) (C := RX5) (Tc := TX5) (N := 19) (ci := 4) hx hb hq pin_wsX50 tyX5 tyX5_ok nmX5 hown hE hP hD hS hO 28 (sg_28 G h0 a _ _ _ _ _) rfl 13 (by decide) (hq _ pw_566) (fun _ h9 => h9) rfl (by decide +kernel) rfl rfl (Nat.le_of_ble_eq_true rfl) (sf_21 G h0 a _ _ _ _ _ (nI x9)) dX5_stepOut_86 (fun H locs w hP hD hS hO => ?_)
  refine lv_goto (tgt := 116) hx hb dX5_stepOut_89 (by decide) ?_
  have hz13 : StG y it (B 16) (B 19) (mT (B 16) (B 30) fl on pc) pc tp (5 : Int32) (nI x9) Z (updJ J 29 (vp_updL ((vp_updL ((J 29)) (ba + s7) 4294967295)) (ba + (s7 + 1)) 0)) fl sp op ht (B 30) on ba (it j9) := (StG.ofQ2 (J1 := (updJ J 29 (vp_updL ((vp_updL ((J 29)) (ba + s7) 4294967295)) (ba + (s7 + 1)) 0))) (by rw [updJ_ne h29.1]; exact StQ.on2 hmi hmo hne (FFy.enter hmi.ff (hmi.wf hmo) (MOy.wf hmo r6 (by omega) r2) r5 r4 r6) (Go.rfl (FFy.enter hmi.ff (hmi.wf hmo) (MOy.wf hmo r6 (by omega) r2) r5 r4 r6).1.1) r2 (Or.inl r3) (fun i hi => (vpL_ne (by omega)).trans (vpL_ne (by omega))) (Nat.le_refl _) hZ) (LoE.up hle h29.1 h29.2) hne)
  have hz14 : PcK Z (nI pc) pc := (fun _ => rfl)
  have hz15 : tp ≤ 32000 ∧ ba ≤ 32000 ∧ on ≤ 100 := (by omega)
  have hz16 : LoE (updJ J 29 (vp_updL ((vp_updL ((J 29)) (ba + s7) 4294967295)) (ba + (s7 + 1)) 0)) sp op := (LoE.up hle h29.1 h29.2)
  have hO : OKP G h0 a (upd (upd (upd (upd (upd (upd (upd (upd (upd (upd F 5 (nI cs)) 6 (nI rg)) 18 (nI ba)) 19 (nI tp)) 20 (nI pc)) 21 (nI x9)) 22 (nI on)) 23 (5 : Int32)) 24 (F 24)) 26 (nI ht)) (updR (updR (updR (updR R 5 (.ref pq)) 6 (.ref (it j9))) 7 (.ref (a sp))) 8 (.ref (a op))) Z B (updJ J 29 (vp_updL ((vp_updL ((J 29)) (ba + s7) 4294967295)) (ba + (s7 + 1)) 0)) K w := hO.to rfl
  exact W.vret hx hb hr (fun t99 ht99 hW99 => ⟨⟨_, (w, (tp, (5 : Int32), (nI x9), (nI pc), (F 24), Z, (updJ J 29 (vp_updL ((vp_updL ((J 29)) (ba + s7) 4294967295)) (ba + (s7 + 1)) 0)), ba, on, (it j9))), rfl, ⟨rfl, hz13, hz14, hz15, hz16, hO⟩, by rw [ht99]; exact hP, hD⟩, hS.F ht99⟩) hS.2.2 dX5_stepOut_116
set_option maxHeartbeats 40000000 in
set_option maxRecDepth 100000 in
theorem Y_so30 (l : Launch) (G : pT) (h0 : Nat) (a : Nat → Nat) (F : Nat → Int32) (R : Nat → Value) (Z : Int64) (B : Nat → Nat → Int32) (J : Nat → Nat → Int64) (K : PK) (w : va_W) (y : TY) (Sh : Nat → Nat) (nn : Nat → Nat) (on : Nat) (j9 : Nat) (ba : Nat) (pc : Nat) (tp : Nat) (sp : Nat) (op : Nat) (ht : Nat) (fl : Nat) (pq : Nat) (dr : Nat) (ml : Nat) (nd : Nat) (nm : Nat) (cp : Nat) (it : Nat → Nat) (s9 : Nat) (g : Nat → Nat → Nat) (rk : Nat → Nat) (cs : Nat) (rg : Nat) (hsp : (sp = 34 ∧ op = 35) ∨ (sp = 35 ∧ op = 34)) (hmi : MIy y (B 19) Sh nn (J sp) ht (B 30) (J 29) on j9 ba pc tp) (hmo : MOy y (B 16) (B 17) (B 18) (B 19) j9) (hZ : Z = 0) (hfl : B 33 5 = nI fl) (hflb : fl ≤ 20000) (hwp : WPr G K g) (hps : PgT G K g (a 1) pq dr ml nd nm cp it s9) (hrk : RkO K rk) (hpy : PrY y K B dr nd nm it cs rg) (hle : LoE J sp op) (hrg : rg ≤ 625) (hcs9 : cs ≤ 10000) (hop : B 16 pc = nI 30) (hru : IRy y (B 16) (B 17) (B 18) pc j9 30) (hO : OKP G h0 a (upd (upd (upd (upd (upd (upd (upd (upd (upd F 5 (nI cs)) 6 (nI rg)) 18 (nI ba)) 19 (nI tp)) 20 (nI pc)) 21 (nI (pc + 1))) 22 (nI on)) 23 5) 26 (nI ht)) (updR (updR (updR (updR R 5 (.ref pq)) 6 (.ref (it j9))) 7 (.ref (a sp))) 8 (.ref (a op))) Z B J K w) : PM l G pX0 yX5_stepOut cX5_stepOut 4 none ({ frames := 40, cells := 0, slots := 0, locals := 4000 }) [.ref (a 5), .int 30, .int (B 17 pc), .int (B 18 pc)] w (fun (v : Option Value) (u : va_W × (Nat × Int32 × Int32 × Int32 × Int32 × Int64 × (Nat → Nat → Int64) × Nat × Nat × Nat)) => v = none ∧ (StG y it (B 16) (B 19) (mT (B 16) (B 30) fl on pc) pc u.2.1 u.2.2.1 u.2.2.2.1 u.2.2.2.2.2.2.1 u.2.2.2.2.2.2.2.1 fl sp op ht (B 30) u.2.2.2.2.2.2.2.2.2.1 u.2.2.2.2.2.2.2.2.1 u.2.2.2.2.2.2.2.2.2.2) ∧ (PcK u.2.2.2.2.2.2.1 u.2.2.2.2.1 pc) ∧ (u.2.1 ≤ 32000 ∧ u.2.2.2.2.2.2.2.2.1 ≤ 32000 ∧ u.2.2.2.2.2.2.2.2.2.1 ≤ 100) ∧ (LoE u.2.2.2.2.2.2.2.1 sp op) ∧ (OKP G h0 a (upd (upd (upd (upd (upd (upd (upd (upd (upd (upd F 5 (nI cs)) 6 (nI rg)) 18 (nI u.2.2.2.2.2.2.2.2.1)) 19 (nI u.2.1)) 20 u.2.2.2.2.1) 21 u.2.2.2.1) 22 (nI u.2.2.2.2.2.2.2.2.2.1)) 23 u.2.2.1) 24 u.2.2.2.2.2.1) 26 (nI ht)) (updR (updR (updR (updR R 5 (.ref pq)) 6 (.ref u.2.2.2.2.2.2.2.2.2.2)) 7 (.ref (a sp))) 8 (.ref (a op))) u.2.2.2.2.2.2.1 B u.2.2.2.2.2.2.2.1 K u.1)) (fun u => u.1) := by
  intro sz
  refine Met.ofW (cc := cX5_stepOut) (maxL := 4) (ret := none) (by decide) rfl ?_
  intro p e s m args below meth c s₁ B9 hml hv
  obtain ⟨rfl, hsz, hP, hD0, hE, hX⟩ := hv
  have hx := B9.exec
  have hb := B9.bytes
  have hr := B9.returns
  have hts := atoms_spec (ws := Cond.code yX5_stepOut cX5_stepOut 4 none :: pw) B9.pre
  have hq : ∀ w ∈ pw, w.before _ s = true := fun w h => hts w (List.mem_cons_of_mem _ h)
  have hown : s.vm.findClass RX5 = some m.cls := findClass_of_methodNamed B9.named
  have hlocks := B9.notSynchronized
  subst hsz
  have hD := hD0.self (sz := s.heap.size)
  have hA : ∀ q : Nat, s.heap.size ≤ q → va_A w s.heap.size q := fun q h => Or.inr h
  generalize va_A w s.heap.size = A at hD hE hA ⊢
  have hS : va_S A s.heap s.heap [] := va_S.rf
  have hl := lv_entry ([.ref (a 5), .int 30, .int (B 17 pc), .int (B 18 pc)]) (n := 4) (Nat.le_of_ble_eq_true rfl)
  rw [lg_entry_eq]
  generalize (lg_sl ([.ref (a 5), .int 30, .int (B 17 pc), .int (B 18 pc)]) ++ List.replicate (4 - (lg_sl ([.ref (a 5), .int 30, .int (B 17 pc), .int (B 18 pc)])).length) Slot.unset).toArray = ls at hl ⊢
  have hl : lv_has ls 4 [(0, .ref (a 5)), (1, .int 30), (2, .int (B 17 pc)), (3, .int (B 18 pc))] := hl
  obtain ⟨hn1, hn2, hn3, hn4, hn5, hn6, hn7, hn8, hn9, hn10, hn11, hn12⟩ := MIy.nums hmi hmo
  have hlo := FFy.lo hmi.ff
  have hpg := hps.1
  have hp1 := hpg.1
  have hp2 := hpg.2.1
  have hp3 := hpg.2.2.1
  have hp4 := hpg.2.2.2.1
  have hp5 := hpg.2.2.2.2.1
  have hp6 := hpg.2.2.2.2.2.1
  have hp8 := hpg.2.2.2.2.2.2.2.1
  have hp9 := hpg.2.2.2.2.2.2.2.2
  have h29 : ¬ sp = 29 ∧ ¬ op = 29 := by omega
  have hht := hmi.1.2.2.2
  have hnm9 := hps.2.2.1.2.2.1
  have hnmE := hpy.1.1
  have hmw := MIy.mw hmi hmo
  have hne : ¬ B 16 pc = 0 := by rw [hop]; decide
  have hmj := hpy.2.1 j9 (by omega)
  obtain ⟨s7, h7, e7, r0, r1, r2, r3, r4, r5, r6, r7⟩ := hru
  rw [r1] at hl
  have hpr := MIy.pro hmi r2 r3 r5
  have hvo := MIy.vo hmi r2
  refine lv_iload_n hx hb dX5_stepOut_0 rfl (lv_at hl 1 rfl) ?_
  refine lv_tableIn (tgt := 92) (off := 91) hx hb dX5_stepOut_1 (by decide) (by decide) (by decide) (by decide) ?_
  refine lv_aload_n hx hb dX5_stepOut_92 rfl (lv_at hl 0 rfl) ?_
  refine lv_aload_n hx hb dX5_stepOut_93 rfl (lv_at hl 0 rfl) ?_
  refine lv_iload_n hx hb dX5_stepOut_94 rfl (lv_at hl 2 rfl) ?_
  have hO : OKW G h0 a (upd (upd (upd (upd (upd (upd (upd (upd (upd (upd F 5 (nI cs)) 6 (nI rg)) 18 (nI ba)) 19 (nI tp)) 20 (nI pc)) 21 (nI (pc + 1))) 22 (nI on)) 23 5) 26 (nI ht)) 18 (nI ba)) (updR (updR (updR (updR R 5 (.ref pq)) 6 (.ref (it j9))) 7 (.ref (a sp))) 8 (.ref (a op))) Z B J K.1 (fun q99 x99 => x99 = rep G a K q99) w := hO.to rfl
  obtain ⟨_, qr4, hqr5⟩ := hO.2.1 28 _ (sg_28 G h0 a _ _ _ _ _)
  refine pc_V0 (G := G) (As := [.int (nI s7)]) (rest := [.ref (a 5)]) hx hb hml hown hq hE hX pX0_al hP hD hS hA hl.1 (Y_slotAt l G h0 a (upd (upd (upd (upd (upd (upd (upd (upd (upd F 5 (nI cs)) 6 (nI rg)) 18 (nI ba)) 19 (nI tp)) 20 (nI pc)) 21 (nI (pc + 1))) 22 (nI on)) 23 5) 26 (nI ht)) (updR (updR (updR (updR R 5 (.ref pq)) 6 (.ref (it j9))) 7 (.ref (a sp))) 8 (.ref (a op))) Z B J K.1 (fun q99 x99 => x99 = rep G a K q99) w ba s7 (by omega) hO) (gV pw_622 pw_623 pw_624 pw_539 pw_594) hV_X5_slotAt qr4 4 hqr5 rfl rfl rfl (Nat.le_of_ble_eq_true rfl) dX5_stepOut_95 ⟨Nat.le_of_ble_eq_true rfl, Nat.le_of_ble_eq_true rfl⟩ ⟨Nat.le_of_ble_eq_true rfl, Nat.le_of_ble_eq_true rfl⟩ (fun v3 u1 H locs hw2 hP hD hS => ?_)
  obtain ⟨w, _⟩ := u1
  obtain ⟨hw2, hO⟩ := hw2
  obtain rfl : v3 = some (.long ((J 29) (ba + s7))) := hw2
  have hO : OKP G h0 a (upd (upd (upd (upd (upd (upd (upd (upd (upd F 5 (nI cs)) 6 (nI rg)) 18 (nI ba)) 19 (nI tp)) 20 (nI pc)) 21 (nI (pc + 1))) 22 (nI on)) 23 5) 26 (nI ht)) (updR (updR (updR (updR R 5 (.ref pq)) 6 (.ref (it j9))) 7 (.ref (a sp))) 8 (.ref (a op))) Z B J K w := hO.to rfl
  refine W.widen (k := 0) (n := 0) (Nat.le_of_ble_eq_true rfl) (Nat.le_of_ble_eq_true rfl) ?_
  refine W.eq (g2 := F0 m 98 ls [.long ((J 29) (ba + s7)), .ref (a 5)]) rfl ?_
  refine lv_l2i hx hb dX5_stepOut_98 rfl ?_
  refine lv_topi (fun x6 e7 => ?_)
  refine lv_aload_n hx hb dX5_stepOut_99 rfl (lv_at hl 0 rfl) ?_
  refine lv_iload_n hx hb dX5_stepOut_100 rfl (lv_at hl 2 rfl) ?_
  refine lv_iconst (v := 1) hx hb dX5_stepOut_101 (by decide) ?_
  refine lv_iadd hx hb dX5_stepOut_102 ?_
  refine lv_topi (fun x8 e9 => ?_)
  obtain rfl : x8 = nI (s7 + 1) := e9.trans (nI_add (s7) (1))
  have hO : OKW G h0 a (upd (upd (upd (upd (upd (upd (upd (upd (upd (upd F 5 (nI cs)) 6 (nI rg)) 18 (nI ba)) 19 (nI tp)) 20 (nI pc)) 21 (nI (pc + 1))) 22 (nI on)) 23 5) 26 (nI ht)) 18 (nI ba)) (updR (updR (updR (updR R 5 (.ref pq)) 6 (.ref (it j9))) 7 (.ref (a sp))) 8 (.ref (a op))) Z B J K.1 (fun q99 x99 => x99 = rep G a K q99) w := hO.to rfl
  obtain ⟨_, qr13, hqr14⟩ := hO.2.1 28 _ (sg_28 G h0 a _ _ _ _ _)
  refine pc_V0 (G := G) (As := [.int (nI (s7 + 1))]) (rest := [.int x6, .ref (a 5)]) hx hb hml hown hq hE hX pX0_al hP hD hS hA hl.1 (Y_slotAt l G h0 a (upd (upd (upd (upd (upd (upd (upd (upd (upd F 5 (nI cs)) 6 (nI rg)) 18 (nI ba)) 19 (nI tp)) 20 (nI pc)) 21 (nI (pc + 1))) 22 (nI on)) 23 5) 26 (nI ht)) (updR (updR (updR (updR R 5 (.ref pq)) 6 (.ref (it j9))) 7 (.ref (a sp))) 8 (.ref (a op))) Z B J K.1 (fun q99 x99 => x99 = rep G a K q99) w ba (s7 + 1) (by omega) hO) (gV pw_622 pw_623 pw_624 pw_539 pw_594) hV_X5_slotAt qr13 4 hqr14 rfl rfl rfl (Nat.le_of_ble_eq_true rfl) dX5_stepOut_103 ⟨Nat.le_of_ble_eq_true rfl, Nat.le_of_ble_eq_true rfl⟩ ⟨Nat.le_of_ble_eq_true rfl, Nat.le_of_ble_eq_true rfl⟩ (fun v12 u10 H locs hw11 hP hD hS => ?_)
  obtain ⟨w, _⟩ := u10
  obtain ⟨hw11, hO⟩ := hw11
  obtain rfl : v12 = some (.long ((J 29) (ba + (s7 + 1)))) := hw11
  have hO : OKP G h0 a (upd (upd (upd (upd (upd (upd (upd (upd (upd F 5 (nI cs)) 6 (nI rg)) 18 (nI ba)) 19 (nI tp)) 20 (nI pc)) 21 (nI (pc + 1))) 22 (nI on)) 23 5) 26 (nI ht)) (updR (updR (updR (updR R 5 (.ref pq)) 6 (.ref (it j9))) 7 (.ref (a sp))) 8 (.ref (a op))) Z B J K w := hO.to rfl
  refine W.widen (k := 0) (n := 0) (Nat.le_of_ble_eq_true rfl) (Nat.le_of_ble_eq_true rfl) ?_
  refine W.eq (g2 := F0 m 106 ls [.long ((J 29) (ba + (s7 + 1))), .int x6, .ref (a 5)]) rfl ?_
  rcases hpr with hpr | hpr | hpr | hpr
  · skip
    obtain ⟨hq1, hq2⟩ := hpr
    have hwy : x6 = (-1) := e7.trans (by rw [hq1]; exact nmV_int)
    rw [hwy]
    have hO : OKW G h0 a (upd (upd (upd (upd (upd (upd (upd (upd (upd F 5 (nI cs)) 6 (nI rg)) 18 (nI ba)) 19 (nI tp)) 20 (nI pc)) 21 (nI (pc + 1))) 22 (nI on)) 23 5) 26 (nI ht)) (updR (updR (updR (updR R 5 (.ref pq)) 6 (.ref (it j9))) 7 (.ref (a sp))) 8 (.ref (a op))) Z B J K.1 (fun q99 x99 => x99 = rep G a K q99) w := hO.to rfl
    obtain ⟨_, qr18, hqr19⟩ := hO.2.1 28 _ (sg_28 G h0 a _ _ _ _ _)
    refine pc_V0 (G := G) (As := [.int (-1), .long ((J 29) (ba + (s7 + 1)))]) (rest := []) hx hb hml hown hq hE hX pX0_al hP hD hS hA hl.1 (Y_goOn1 l G h0 a (upd (upd (upd (upd (upd (upd (upd (upd (upd F 5 (nI cs)) 6 (nI rg)) 18 (nI ba)) 19 (nI tp)) 20 (nI pc)) 21 (nI (pc + 1))) 22 (nI on)) 23 5) 26 (nI ht)) (updR (updR (updR (updR R 5 (.ref pq)) 6 (.ref (it j9))) 7 (.ref (a sp))) 8 (.ref (a op))) Z B J K.1 (fun q99 x99 => x99 = rep G a K q99) w ((J 29) (ba + (s7 + 1))) hO) (gV pw_723 pw_724 pw_725 pw_539 pw_722) hV_X5_goOn qr18 4 hqr19 rfl rfl rfl (Nat.le_of_ble_eq_true rfl) dX5_stepOut_106 ⟨Nat.le_of_ble_eq_true rfl, Nat.le_of_ble_eq_true rfl⟩ ⟨Nat.le_of_ble_eq_true rfl, Nat.le_of_ble_eq_true rfl⟩ (fun v17 u15 H locs hw16 hP hD hS => ?_)
    obtain ⟨w, _⟩ := u15
    obtain ⟨hw16, hO⟩ := hw16
    obtain rfl : v17 = none := hw16
    have hO : OKP G h0 a (upd (upd (upd (upd (upd (upd (upd (upd (upd F 5 (nI cs)) 6 (nI rg)) 18 (nI ba)) 19 (nI tp)) 20 (nI pc)) 21 (nI (pc + 1))) 22 (nI on)) 23 5) 26 (nI ht)) (updR (updR (updR (updR R 5 (.ref pq)) 6 (.ref (it j9))) 7 (.ref (a sp))) 8 (.ref (a op))) Z B J K w := hO.to rfl
    refine W.widen (k := 0) (n := 0) (Nat.le_of_ble_eq_true rfl) (Nat.le_of_ble_eq_true rfl) ?_
    refine W.eq (g2 := F0 m 109 ls []) rfl ?_
    refine lv_goto (tgt := 116) hx hb dX5_stepOut_109 (by decide) ?_
    have hz20 : StG y it (B 16) (B 19) (mT (B 16) (B 30) fl on pc) pc tp (5 : Int32) (nI (pc + 1)) Z J fl sp op ht (B 30) on ba (it j9) := (StG.ofQ2 (StQ.on1 hmi hmo hne (FFy.held hmi.ff (by omega)) (r7 hq2) (fun _ _ => rfl) (Nat.le_refl _) hZ) hle hne)
    have hz21 : PcK Z (nI pc) pc := (fun _ => rfl)
    have hz22 : tp ≤ 32000 ∧ ba ≤ 32000 ∧ on ≤ 100 := (by omega)
    have hz23 : LoE J sp op := hle
    have hO : OKP G h0 a (upd (upd (upd (upd (upd (upd (upd (upd (upd (upd F 5 (nI cs)) 6 (nI rg)) 18 (nI ba)) 19 (nI tp)) 20 (nI pc)) 21 (nI (pc + 1))) 22 (nI on)) 23 (5 : Int32)) 24 (F 24)) 26 (nI ht)) (updR (updR (updR (updR R 5 (.ref pq)) 6 (.ref (it j9))) 7 (.ref (a sp))) 8 (.ref (a op))) Z B J K w := hO.to rfl
    exact W.vret hx hb hr (fun t99 ht99 hW99 => ⟨⟨_, (w, (tp, (5 : Int32), (nI (pc + 1)), (nI pc), (F 24), Z, J, ba, on, (it j9))), rfl, ⟨rfl, hz20, hz21, hz22, hz23, hO⟩, by rw [ht99]; exact hP, hD⟩, hS.F ht99⟩) hS.2.2 dX5_stepOut_116
  · skip
    obtain ⟨hq1, p7, d7, hq2, hq3, hq4, hq5⟩ := hpr
    have hwy : x6 = (-2) := e7.trans (by rw [hq1]; exact nmV_int)
    rw [hwy]
    have hO : OKW G h0 a (upd (upd (upd (upd (upd (upd (upd (upd (upd F 5 (nI cs)) 6 (nI rg)) 18 (nI ba)) 19 (nI tp)) 20 (nI pc)) 21 (nI (pc + 1))) 22 (nI on)) 23 5) 26 (nI ht)) (updR (updR (updR (updR R 5 (.ref pq)) 6 (.ref (it j9))) 7 (.ref (a sp))) 8 (.ref (a op))) Z B J K.1 (fun q99 x99 => x99 = rep G a K q99) w := hO.to rfl
    obtain ⟨_, qr27, hqr28⟩ := hO.2.1 28 _ (sg_28 G h0 a _ _ _ _ _)
    refine pc_V0 (G := G) (As := [.int (-2), .long ((J 29) (ba + (s7 + 1)))]) (rest := []) hx hb hml hown hq hE hX pX0_al hP hD hS hA hl.1 (Y_goOn2 l G h0 a (upd (upd (upd (upd (upd (upd (upd (upd (upd F 5 (nI cs)) 6 (nI rg)) 18 (nI ba)) 19 (nI tp)) 20 (nI pc)) 21 (nI (pc + 1))) 22 (nI on)) 23 5) 26 (nI ht)) (updR (updR (updR (updR R 5 (.ref pq)) 6 (.ref (it j9))) 7 (.ref (a sp))) 8 (.ref (a op))) Z B J K.1 (fun q99 x99 => x99 = rep G a K q99) w ((J 29) (ba + (s7 + 1))) hO) (gV pw_723 pw_724 pw_725 pw_539 pw_722) hV_X5_goOn qr27 4 hqr28 rfl rfl rfl (Nat.le_of_ble_eq_true rfl) dX5_stepOut_106 ⟨Nat.le_of_ble_eq_true rfl, Nat.le_of_ble_eq_true rfl⟩ ⟨Nat.le_of_ble_eq_true rfl, Nat.le_of_ble_eq_true rfl⟩ (fun v26 u24 H locs hw25 hP hD hS => ?_)
    obtain ⟨w, _⟩ := u24
    obtain ⟨hw25, hO⟩ := hw25
    obtain rfl : v26 = none := hw25
    have hO : OKP G h0 a (upd (upd (upd (upd (upd (upd (upd (upd (upd F 5 (nI cs)) 6 (nI rg)) 18 (nI ba)) 19 (nI tp)) 20 (nI pc)) 21 (nI (pc + 1))) 22 (nI on)) 23 5) 26 (nI ht)) (updR (updR (updR (updR R 5 (.ref pq)) 6 (.ref (it j9))) 7 (.ref (a sp))) 8 (.ref (a op))) ((J 29) (ba + (s7 + 1))) B J K w := hO.to rfl
    refine W.widen (k := 0) (n := 0) (Nat.le_of_ble_eq_true rfl) (Nat.le_of_ble_eq_true rfl) ?_
    refine W.eq (g2 := F0 m 109 ls []) rfl ?_
    refine lv_goto (tgt := 116) hx hb dX5_stepOut_109 (by decide) ?_
    have hz29 : StG y it (B 16) (B 19) (mT (B 16) (B 30) fl on pc) pc tp (5 : Int32) (nI (pc + 1)) ((J 29) (ba + (s7 + 1))) J fl sp op ht (B 30) on ba (it j9) := (StG.ofQ2 (StQ.thrown hmi hmo (by rw [hop]; decide) ⟨p7, d7, hq2, hq3, hq4, hq5⟩ (fun _ _ => rfl) (Nat.le_refl _)) hle hne)
    have hz30 : PcK ((J 29) (ba + (s7 + 1))) (nI pc) pc := (fun _ => rfl)
    have hz31 : tp ≤ 32000 ∧ ba ≤ 32000 ∧ on ≤ 100 := (by omega)
    have hz32 : LoE J sp op := hle
    have hO : OKP G h0 a (upd (upd (upd (upd (upd (upd (upd (upd (upd (upd F 5 (nI cs)) 6 (nI rg)) 18 (nI ba)) 19 (nI tp)) 20 (nI pc)) 21 (nI (pc + 1))) 22 (nI on)) 23 (5 : Int32)) 24 (F 24)) 26 (nI ht)) (updR (updR (updR (updR R 5 (.ref pq)) 6 (.ref (it j9))) 7 (.ref (a sp))) 8 (.ref (a op))) ((J 29) (ba + (s7 + 1))) B J K w := hO.to rfl
    exact W.vret hx hb hr (fun t99 ht99 hW99 => ⟨⟨_, (w, (tp, (5 : Int32), (nI (pc + 1)), (nI pc), (F 24), ((J 29) (ba + (s7 + 1))), J, ba, on, (it j9))), rfl, ⟨rfl, hz29, hz30, hz31, hz32, hO⟩, by rw [ht99]; exact hP, hD⟩, hS.F ht99⟩) hS.2.2 dX5_stepOut_116
  · skip
    obtain ⟨hq1, hq2⟩ := hpr
    have hwy : x6 = (-3) := e7.trans (by rw [hq1]; exact nmV_int)
    rw [hwy]
    have hO : OKP G h0 a (upd (upd (upd (upd (upd (upd (upd (upd (upd (upd (upd (upd (upd (upd (upd (upd (upd F 5 (nI cs)) 6 (nI rg)) 18 (nI ba)) 19 (nI tp)) 20 (nI pc)) 21 (nI (pc + 1))) 22 (nI on)) 23 5) 26 (nI ht)) 5 (nI cs)) 6 (nI rg)) 18 (nI ba)) 19 (nI tp)) 20 (nI pc)) 22 (nI on)) 23 5) 26 (nI ht)) (updR (updR (updR (updR (updR (updR (updR (updR R 5 (.ref pq)) 6 (.ref (it j9))) 7 (.ref (a sp))) 8 (.ref (a op))) 5 (.ref pq)) 6 (.ref (it j9))) 7 (.ref (a sp))) 8 (.ref (a op))) Z B J K w := hO.to rfl
    obtain ⟨_, qr36, hqr37⟩ := hO.2.1 28 _ (sg_28 G h0 a _ _ _ _ _)
    refine pc_V0 (G := G) (As := [.int (-3), .long ((J 29) (ba + (s7 + 1)))]) (rest := []) hx hb hml hown hq hE hX pX0_al hP hD hS hA hl.1 (Y_goOn3 l G h0 a (upd (upd (upd (upd (upd (upd (upd (upd (upd F 5 (nI cs)) 6 (nI rg)) 18 (nI ba)) 19 (nI tp)) 20 (nI pc)) 21 (nI (pc + 1))) 22 (nI on)) 23 5) 26 (nI ht)) (updR (updR (updR (updR R 5 (.ref pq)) 6 (.ref (it j9))) 7 (.ref (a sp))) 8 (.ref (a op))) Z B J K w y Sh nn on j9 ba pc tp sp op ht fl pq dr ml nd nm cp it s9 g rk cs rg ((J 29) (ba + (s7 + 1))) hsp hmw hmo hne hle (by omega) hwp hps hrk hpy hcs9 hvo hq2 hrg hO) (gV pw_723 pw_724 pw_725 pw_539 pw_722) hV_X5_goOn qr36 4 hqr37 rfl rfl rfl (Nat.le_of_ble_eq_true rfl) dX5_stepOut_106 ⟨Nat.le_of_ble_eq_true rfl, Nat.le_of_ble_eq_true rfl⟩ ⟨Nat.le_of_ble_eq_true rfl, Nat.le_of_ble_eq_true rfl⟩ (fun v35 u33 H locs hw34 hP hD hS => ?_)
    obtain ⟨w, tp38, en39, nx40, pc41, rs42, J43, ba44, on45, mr46⟩ := u33
    obtain ⟨hw34, h47, h48, h49, hO⟩ := hw34
    have h47 : LvQ y it ((B 16)) ((B 19)) ((B 30)) Sh nn J43 sp ht fl (mT ((B 16)) ((B 30)) fl on pc) tp38 en39 nx40 ba44 on45 mr46 := h47
    have h48 : LoE J43 sp op := h48
    have h49 : tp38 ≤ 32000 ∧ ba44 ≤ 32000 ∧ on45 ≤ 100 := h49
    obtain rfl : v35 = none := hw34
    have hO : OKP G h0 a (upd (upd (upd (upd (upd (upd (upd (upd (upd (upd F 5 (nI cs)) 6 (nI rg)) 18 (nI ba44)) 19 (nI tp38)) 20 pc41) 21 nx40) 22 (nI on45)) 23 en39) 24 rs42) 26 (nI ht)) (updR (updR (updR (updR R 5 (.ref pq)) 6 (.ref mr46)) 7 (.ref (a sp))) 8 (.ref (a op))) Z B J43 K w := hO.to rfl
    refine W.widen (k := 0) (n := 0) (Nat.le_of_ble_eq_true rfl) (Nat.le_of_ble_eq_true rfl) ?_
    refine W.eq (g2 := F0 m 109 ls []) rfl ?_
    refine lv_goto (tgt := 116) hx hb dX5_stepOut_109 (by decide) ?_
    have hz50 : StG y it (B 16) (B 19) (mT (B 16) (B 30) fl on pc) pc tp38 en39 nx40 Z J43 fl sp op ht (B 30) on45 ba44 mr46 := (StG.ofL h47 h48 hZ)
    have hz51 : PcK Z pc41 pc := (fun z => absurd hZ z)
    have hz52 : tp38 ≤ 32000 ∧ ba44 ≤ 32000 ∧ on45 ≤ 100 := (by omega)
    have hz53 : LoE J43 sp op := h48
    have hO : OKP G h0 a (upd (upd (upd (upd (upd (upd (upd (upd (upd (upd F 5 (nI cs)) 6 (nI rg)) 18 (nI ba44)) 19 (nI tp38)) 20 pc41) 21 nx40) 22 (nI on45)) 23 en39) 24 rs42) 26 (nI ht)) (updR (updR (updR (updR R 5 (.ref pq)) 6 (.ref mr46)) 7 (.ref (a sp))) 8 (.ref (a op))) Z B J43 K w := hO.to rfl
    exact W.vret hx hb hr (fun t99 ht99 hW99 => ⟨⟨_, (w, (tp38, en39, nx40, pc41, rs42, Z, J43, ba44, on45, mr46)), rfl, ⟨rfl, hz50, hz51, hz52, hz53, hO⟩, by rw [ht99]; exact hP, hD⟩, hS.F ht99⟩) hS.2.2 dX5_stepOut_116
  · skip
    obtain ⟨x9, hq0, hq1, hq2⟩ := hpr
    obtain ⟨hjx, hx1, hx2, hwx⟩ := MIy.goOn hmi hmo hop r0 (by omega) r1 r2 r3 r5 r6 hq2
    have hwy : x6 = (nI x9) := e7.trans (by rw [hq1]; exact nmV_int)
    rw [hwy]
    have hO : OKP G h0 a (upd (upd (upd (upd (upd (upd (upd (upd (upd (upd (upd (upd (upd (upd (upd (upd (upd F 5 (nI cs)) 6 (nI rg)) 18 (nI ba)) 19 (nI tp)) 20 (nI pc)) 21 (nI (pc + 1))) 22 (nI on)) 23 5) 26 (nI ht)) 5 (nI cs)) 6 (nI rg)) 18 (nI ba)) 19 (nI tp)) 20 (nI pc)) 22 (nI on)) 23 5) 26 (nI ht)) (updR (updR (updR (updR (updR (updR (updR (updR R 5 (.ref pq)) 6 (.ref (it j9))) 7 (.ref (a sp))) 8 (.ref (a op))) 5 (.ref pq)) 6 (.ref (it j9))) 7 (.ref (a sp))) 8 (.ref (a op))) Z B J K w := hO.to rfl
    obtain ⟨_, qr57, hqr58⟩ := hO.2.1 28 _ (sg_28 G h0 a _ _ _ _ _)
    refine pc_V0 (G := G) (As := [.int (nI x9), .long ((J 29) (ba + (s7 + 1)))]) (rest := []) hx hb hml hown hq hE hX pX0_al hP hD hS hA hl.1 (Y_goOnJ l G h0 a (upd (upd (upd (upd (upd (upd (upd (upd (upd F 5 (nI cs)) 6 (nI rg)) 18 (nI ba)) 19 (nI tp)) 20 (nI pc)) 21 (nI (pc + 1))) 22 (nI on)) 23 5) 26 (nI ht)) (updR (updR (updR (updR R 5 (.ref pq)) 6 (.ref (it j9))) 7 (.ref (a sp))) 8 (.ref (a op))) Z B J K w y Sh nn on j9 ba pc tp sp op ht fl pq dr ml nd nm cp it s9 g rk cs rg ((J 29) (ba + (s7 + 1))) x9 hsp hmw hmo hne hle (by omega) hwp hps hrk hpy hcs9 hvo hjx ⟨hx1, by omega⟩ hwx hrg hO) (gV pw_723 pw_724 pw_725 pw_539 pw_722) hV_X5_goOn qr57 4 hqr58 rfl rfl rfl (Nat.le_of_ble_eq_true rfl) dX5_stepOut_106 ⟨Nat.le_of_ble_eq_true rfl, Nat.le_of_ble_eq_true rfl⟩ ⟨Nat.le_of_ble_eq_true rfl, Nat.le_of_ble_eq_true rfl⟩ (fun v56 u54 H locs hw55 hP hD hS => ?_)
    obtain ⟨w, tp59, en60, nx61, pc62, rs63, J64, ba65, on66, mr67⟩ := u54
    obtain ⟨hw55, h68, h69, h70, hO⟩ := hw55
    have h68 : LvQ y it ((B 16)) ((B 19)) ((B 30)) Sh nn J64 sp ht fl (mT ((B 16)) ((B 30)) fl on pc) tp59 en60 nx61 ba65 on66 mr67 := h68
    have h69 : LoE J64 sp op := h69
    have h70 : tp59 ≤ 32000 ∧ ba65 ≤ 32000 ∧ on66 ≤ 100 := h70
    obtain rfl : v56 = none := hw55
    have hO : OKP G h0 a (upd (upd (upd (upd (upd (upd (upd (upd (upd (upd F 5 (nI cs)) 6 (nI rg)) 18 (nI ba65)) 19 (nI tp59)) 20 pc62) 21 nx61) 22 (nI on66)) 23 en60) 24 rs63) 26 (nI ht)) (updR (updR (updR (updR R 5 (.ref pq)) 6 (.ref mr67)) 7 (.ref (a sp))) 8 (.ref (a op))) Z B J64 K w := hO.to rfl
    refine W.widen (k := 0) (n := 0) (Nat.le_of_ble_eq_true rfl) (Nat.le_of_ble_eq_true rfl) ?_
    refine W.eq (g2 := F0 m 109 ls []) rfl ?_
    refine lv_goto (tgt := 116) hx hb dX5_stepOut_109 (by decide) ?_
    have hz71 : StG y it (B 16) (B 19) (mT (B 16) (B 30) fl on pc) pc tp59 en60 nx61 Z J64 fl sp op ht (B 30) on66 ba65 mr67 := (StG.ofL h68 h69 hZ)
    have hz72 : PcK Z pc62 pc := (fun z => absurd hZ z)
    have hz73 : tp59 ≤ 32000 ∧ ba65 ≤ 32000 ∧ on66 ≤ 100 := (by omega)
    have hz74 : LoE J64 sp op := h69
    have hO : OKP G h0 a (upd (upd (upd (upd (upd (upd (upd (upd (upd (upd F 5 (nI cs)) 6 (nI rg)) 18 (nI ba65)) 19 (nI tp59)) 20 pc62) 21 nx61) 22 (nI on66)) 23 en60) 24 rs63) 26 (nI ht)) (updR (updR (updR (updR R 5 (.ref pq)) 6 (.ref mr67)) 7 (.ref (a sp))) 8 (.ref (a op))) Z B J64 K w := hO.to rfl
    exact W.vret hx hb hr (fun t99 ht99 hW99 => ⟨⟨_, (w, (tp59, en60, nx61, pc62, rs63, Z, J64, ba65, on66, mr67)), rfl, ⟨rfl, hz71, hz72, hz73, hz74, hO⟩, by rw [ht99]; exact hP, hD⟩, hS.F ht99⟩) hS.2.2 dX5_stepOut_116
set_option maxHeartbeats 8000000 in
theorem Y_stepOut (l : Launch) (G : pT) (h0 : Nat) (a : Nat → Nat) (F : Nat → Int32) (R : Nat → Value) (Z : Int64) (B : Nat → Nat → Int32) (J : Nat → Nat → Int64) (K : PK) (w : va_W) (y : TY) (Sh : Nat → Nat) (nn : Nat → Nat) (on : Nat) (j9 : Nat) (ba : Nat) (pc : Nat) (tp : Nat) (sp : Nat) (op : Nat) (ht : Nat) (fl : Nat) (pq : Nat) (dr : Nat) (ml : Nat) (nd : Nat) (nm : Nat) (cp : Nat) (it : Nat → Nat) (s9 : Nat) (g : Nat → Nat → Nat) (rk : Nat → Nat) (cs : Nat) (rg : Nat) (ko : Nat) (hsp : (sp = 34 ∧ op = 35) ∨ (sp = 35 ∧ op = 34)) (hmi : MIy y (B 19) Sh nn (J sp) ht (B 30) (J 29) on j9 ba pc tp) (hmo : MOy y (B 16) (B 17) (B 18) (B 19) j9) (hZ : Z = 0) (hfl : B 33 5 = nI fl) (hflb : fl ≤ 20000) (hwp : WPr G K g) (hps : PgT G K g (a 1) pq dr ml nd nm cp it s9) (hrk : RkO K rk) (hpy : PrY y K B dr nd nm it cs rg) (hle : LoE J sp op) (hrg : rg ≤ 625) (hcs9 : cs ≤ 10000) (hop : B 16 pc = nI ko) (hru : IRy y (B 16) (B 17) (B 18) pc j9 ko) (hko : 26 ≤ ko ∧ ko < 31) (hO : OKP G h0 a (upd (upd (upd (upd (upd (upd (upd (upd (upd F 5 (nI cs)) 6 (nI rg)) 18 (nI ba)) 19 (nI tp)) 20 (nI pc)) 21 (nI (pc + 1))) 22 (nI on)) 23 5) 26 (nI ht)) (updR (updR (updR (updR R 5 (.ref pq)) 6 (.ref (it j9))) 7 (.ref (a sp))) 8 (.ref (a op))) Z B J K w) : PM l G pX0 yX5_stepOut cX5_stepOut 4 none ({ frames := 40, cells := 0, slots := 0, locals := 4000 }) [.ref (a 5), .int (nI ko), .int (B 17 pc), .int (B 18 pc)] w (fun (v : Option Value) (u : va_W × (Nat × Int32 × Int32 × Int32 × Int32 × Int64 × (Nat → Nat → Int64) × Nat × Nat × Nat)) => v = none ∧ (StG y it (B 16) (B 19) (mT (B 16) (B 30) fl on pc) pc u.2.1 u.2.2.1 u.2.2.2.1 u.2.2.2.2.2.2.1 u.2.2.2.2.2.2.2.1 fl sp op ht (B 30) u.2.2.2.2.2.2.2.2.2.1 u.2.2.2.2.2.2.2.2.1 u.2.2.2.2.2.2.2.2.2.2) ∧ (PcK u.2.2.2.2.2.2.1 u.2.2.2.2.1 pc) ∧ (u.2.1 ≤ 32000 ∧ u.2.2.2.2.2.2.2.2.1 ≤ 32000 ∧ u.2.2.2.2.2.2.2.2.2.1 ≤ 100) ∧ (LoE u.2.2.2.2.2.2.2.1 sp op) ∧ (OKP G h0 a (upd (upd (upd (upd (upd (upd (upd (upd (upd (upd F 5 (nI cs)) 6 (nI rg)) 18 (nI u.2.2.2.2.2.2.2.2.1)) 19 (nI u.2.1)) 20 u.2.2.2.2.1) 21 u.2.2.2.1) 22 (nI u.2.2.2.2.2.2.2.2.2.1)) 23 u.2.2.1) 24 u.2.2.2.2.2.1) 26 (nI ht)) (updR (updR (updR (updR R 5 (.ref pq)) 6 (.ref u.2.2.2.2.2.2.2.2.2.2)) 7 (.ref (a sp))) 8 (.ref (a op))) u.2.2.2.2.2.2.1 B u.2.2.2.2.2.2.2.1 K u.1)) (fun u => u.1) := by
  rcases (show ko = 26 ∨ ko = 27 ∨ ko = 28 ∨ ko = 29 ∨ ko = 30 by omega) with rfl | rfl | rfl | rfl | rfl
  · exact Y_so26 l G h0 a F R Z B J K w y Sh nn on j9 ba pc tp sp op ht fl pq dr ml nd nm cp it s9 g rk cs rg hsp hmi hmo hZ hfl hflb hwp hps hrk hpy hle hrg hcs9 hop hru hO
  · exact Y_so27 l G h0 a F R Z B J K w y Sh nn on j9 ba pc tp sp op ht fl pq dr ml nd nm cp it s9 g rk cs rg hsp hmi hmo hZ hfl hflb hwp hps hrk hpy hle hrg hcs9 hop hru hO
  · exact Y_so28 l G h0 a F R Z B J K w y Sh nn on j9 ba pc tp sp op ht fl pq dr ml nd nm cp it s9 g rk cs rg hsp hmi hmo hZ hfl hflb hwp hps hrk hpy hle hrg hcs9 hop hru hO
  · exact Y_so29 l G h0 a F R Z B J K w y Sh nn on j9 ba pc tp sp op ht fl pq dr ml nd nm cp it s9 g rk cs rg hsp hmi hmo hZ hfl hflb hwp hps hrk hpy hle hrg hcs9 hop hru hO
  · exact Y_so30 l G h0 a F R Z B J K w y Sh nn on j9 ba pc tp sp op ht fl pq dr ml nd nm cp it s9 g rk cs rg hsp hmi hmo hZ hfl hflb hwp hps hrk hpy hle hrg hcs9 hop hru hO

set_option maxHeartbeats 40000000 in
set_option maxRecDepth 100000 in
theorem Y_leaveR (l : Launch) (G : pT) (h0 : Nat) (a : Nat → Nat) (F : Nat → Int32) (R : Nat → Value) (Z : Int64) (B : Nat → Nat → Int32) (J : Nat → Nat → Int64) (K : PK) (w : va_W) (y : TY) (Sh : Nat → Nat) (nn : Nat → Nat) (on : Nat) (j9 : Nat) (ba : Nat) (pc : Nat) (tp : Nat) (sp : Nat) (op : Nat) (ht : Nat) (fl : Nat) (pq : Nat) (dr : Nat) (ml : Nat) (nd : Nat) (nm : Nat) (cp : Nat) (it : Nat → Nat) (s9 : Nat) (g : Nat → Nat → Nat) (rk : Nat → Nat) (cs : Nat) (rg : Nat) (x : Int64) (hsp : (sp = 34 ∧ op = 35) ∨ (sp = 35 ∧ op = 34)) (hmw : MWy y (B 19) Sh nn (J sp) ht (B 30) (J 29) on j9 ba pc) (hmo : MOy y (B 16) (B 17) (B 18) (B 19) j9) (hne : ¬ B 16 pc = 0) (hle : LoE J sp op) (htp : tp ≤ 32000) (hwp : WPr G K g) (hps : PgT G K g (a 1) pq dr ml nd nm cp it s9) (hrk : RkO K rk) (hpy : PrY y K B dr nd nm it cs rg) (hcs9 : cs ≤ 10000) (hvo : VO Sh x) (hrv : yrt y j9 = 63 ∨ VT (yfi y) Sh (yrt y j9) x) (hrg : rg ≤ 625) (hO : OKP G h0 a (upd (upd (upd (upd (upd (upd (upd (upd F 5 (nI cs)) 6 (nI rg)) 18 (nI ba)) 19 (nI tp)) 20 (nI pc)) 22 (nI on)) 23 5) 26 (nI ht)) (updR (updR (updR (updR R 5 (.ref pq)) 6 (.ref (it j9))) 7 (.ref (a sp))) 8 (.ref (a op))) Z B J K w) : PM l G pX0 yX5_leave cX5_leave 6 none ({ frames := 8, cells := 0, slots := 0, locals := 188 }) [.ref (a 5), .int (-3), .long x] w (fun (v : Option Value) (u : va_W × (Nat × Int32 × Int32 × Int32 × Int32 × (Nat → Nat → Int64) × Nat × Nat × Nat)) => v = none ∧ (LvQ y it (B 16) (B 19) (B 30) Sh nn u.2.2.2.2.2.2.1 sp ht fl (mT (B 16) (B 30) fl on pc) u.2.1 u.2.2.1 u.2.2.2.1 u.2.2.2.2.2.2.2.1 u.2.2.2.2.2.2.2.2.1 u.2.2.2.2.2.2.2.2.2) ∧ (LoE u.2.2.2.2.2.2.1 sp op) ∧ (u.2.1 ≤ 32000 ∧ u.2.2.2.2.2.2.2.1 ≤ 32000 ∧ u.2.2.2.2.2.2.2.2.1 ≤ 100) ∧ (OKP G h0 a (upd (upd (upd (upd (upd (upd (upd (upd (upd (upd F 5 (nI cs)) 6 (nI rg)) 18 (nI u.2.2.2.2.2.2.2.1)) 19 (nI u.2.1)) 20 u.2.2.2.2.1) 21 u.2.2.2.1) 22 (nI u.2.2.2.2.2.2.2.2.1)) 23 u.2.2.1) 24 u.2.2.2.2.2.1) 26 (nI ht)) (updR (updR (updR (updR R 5 (.ref pq)) 6 (.ref u.2.2.2.2.2.2.2.2.2)) 7 (.ref (a sp))) 8 (.ref (a op))) Z B u.2.2.2.2.2.2.1 K u.1)) (fun u => u.1) := by
  intro sz
  refine Met.ofW (cc := cX5_leave) (maxL := 6) (ret := none) (by decide) rfl ?_
  intro p e s m args below meth c s₁ B9 hml hv
  obtain ⟨rfl, hsz, hP, hD0, hE, hX⟩ := hv
  have hx := B9.exec
  have hb := B9.bytes
  have hr := B9.returns
  have hts := atoms_spec (ws := Cond.code yX5_leave cX5_leave 6 none :: pw) B9.pre
  have hq : ∀ w ∈ pw, w.before _ s = true := fun w h => hts w (List.mem_cons_of_mem _ h)
  have hown : s.vm.findClass RX5 = some m.cls := findClass_of_methodNamed B9.named
  have hlocks := B9.notSynchronized
  subst hsz
  have hD := hD0.self (sz := s.heap.size)
  have hA : ∀ q : Nat, s.heap.size ≤ q → va_A w s.heap.size q := fun q h => Or.inr h
  generalize va_A w s.heap.size = A at hD hE hA ⊢
  have hS : va_S A s.heap s.heap [] := va_S.rf
  have hl := lv_entry ([.ref (a 5), .int (-3), .long x]) (n := 6) (Nat.le_of_ble_eq_true rfl)
  rw [lg_entry_eq]
  generalize (lg_sl ([.ref (a 5), .int (-3), .long x]) ++ List.replicate (6 - (lg_sl ([.ref (a 5), .int (-3), .long x])).length) Slot.unset).toArray = ls at hl ⊢
  have hl : lv_has ls 6 [(0, .ref (a 5)), (1, .int (-3)), (2, .long x)] := hl
  have hpg := hps.1
  have hp1 := hpg.1
  have hp2 := hpg.2.1
  have hp3 := hpg.2.2.1
  have hp4 := hpg.2.2.2.1
  have hp5 := hpg.2.2.2.2.1
  have hp6 := hpg.2.2.2.2.2.1
  have hp8 := hpg.2.2.2.2.2.2.2.1
  have hp9 := hpg.2.2.2.2.2.2.2.2
  have h29 : ¬ sp = 29 ∧ ¬ op = 29 := by omega
  obtain ⟨hb1, hb2, hb3, hb4, hb5, hb6⟩ := hmw.1.1
  have hnmE := hpy.1.1
  have hnm9 := hps.2.2.1.2.2.1
  have hmj := hpy.2.1 j9 (by omega)
  have hsj : ysl y j9 ≤ 319 := by have z9 := (hmo.2.2.2.1 pc hb4 hb5 hmw.1.2.1.1.1).2.2.1; have e9 : ysl y j9 = (yM y).2.1 j9 := rfl; omega
  have hbj : yhi y j9 ≤ 10000 := hmo.2.1.2
  have hb5y : pc < yhi y j9 := hb5
  have hrj := hmj.2.2.2.2.2.2.2.2.1
  refine lv_aload_n hx hb dX5_leave_0 rfl (lv_at hl 0 rfl) ?_
  refine c_get (v := .ref (it j9)) (C := RX5) (Tc := TX5) (N := 19) (ci := 4) hx hb hq pin_wsX50 hown hE hP hO 28 (sg_28 G h0 a _ _ _ _ _) rfl 9 (by decide) (hq _ pw_503) (fun _ h9 => h9) rfl dX5_leave_1 ?_
  refine lv_ifnonnull (tgt := 12) hx hb dX5_leave_4 (by decide) ?_
  refine lv_aload_n hx hb dX5_leave_12 rfl (lv_at hl 0 rfl) ?_
  refine c_get (v := .ref (it j9)) (C := RX5) (Tc := TX5) (N := 19) (ci := 4) hx hb hq pin_wsX50 hown hE hP hO 28 (sg_28 G h0 a _ _ _ _ _) rfl 9 (by decide) (hq _ pw_503) (fun _ h9 => h9) rfl dX5_leave_13 ?_
  refine p_get (v := .int (nI (yr0 y j9))) (C := RX6) (Tc := TX6) (N := 12) (ci := 12) hx hb hq pin_wsX60 hown hE hP hO (by rw [(hps.2.2.1.T (show j9 < nm by omega))]; decide) (rep_3 (hps.2.2.1.T (show j9 < nm by omega))) rfl 10 (by decide) (hq _ pw_707) (fun _ h9 => h9) (congrArg (fun z => some (Value.int z)) hmj.2.2.2.2.2.2.1) dX5_leave_16 ?_
  refine lv_istore (lv' := [(4, .int (nI (yr0 y j9))), (0, .ref (a 5)), (1, .int (-3)), (2, .long x)]) hx hb dX5_leave_19 hl (by decide) rfl (fun ls hl => ?_)
  have loop_r : ∀ (n_r : Nat) (k2 : Nat) (H : Heap) (locs : List Loc) (ls : Array Slot) (w : va_W), k2 ≤ (yr1 y j9) → (yr1 y j9) + 1 ≤ k2 + n_r → (yr0 y j9 ≤ k2) → va_P G.1 pCl w H → va_D A w → va_S A s.heap H locs → OKP G h0 a (upd (upd (upd (upd (upd (upd (upd (upd F 5 (nI cs)) 6 (nI rg)) 18 (nI ba)) 19 (nI tp)) 20 (nI pc)) 22 (nI on)) 23 5) 26 (nI ht)) (updR (updR (updR (updR R 5 (.ref pq)) 6 (.ref (it j9))) 7 (.ref (a sp))) 8 (.ref (a op))) Z B J K w → lv_has ls 6 [(4, .int (nI k2)), (2, .long x), (1, .int (-3)), (0, .ref (a 5))] → W p l e (headSpec (Cond.code yX5_leave cX5_leave 6 none :: pw) ({ frames := 8, cells := 0, slots := 0, locals := 188 } : Room)).room s m ([.ref (a 5), .int (-3), .long x] : List Value).toArray below meth c H locs 0 0 (MQ below (pQ G A (fun (v : Option Value) (u : va_W × (Nat × Int32 × Int32 × Int32 × Int32 × (Nat → Nat → Int64) × Nat × Nat × Nat)) => v = none ∧ (LvQ y it (B 16) (B 19) (B 30) Sh nn u.2.2.2.2.2.2.1 sp ht fl (mT (B 16) (B 30) fl on pc) u.2.1 u.2.2.1 u.2.2.2.1 u.2.2.2.2.2.2.2.1 u.2.2.2.2.2.2.2.2.1 u.2.2.2.2.2.2.2.2.2) ∧ (LoE u.2.2.2.2.2.2.1 sp op) ∧ (u.2.1 ≤ 32000 ∧ u.2.2.2.2.2.2.2.1 ≤ 32000 ∧ u.2.2.2.2.2.2.2.2.1 ≤ 100) ∧ (OKP G h0 a (upd (upd (upd (upd (upd (upd (upd (upd (upd (upd F 5 (nI cs)) 6 (nI rg)) 18 (nI u.2.2.2.2.2.2.2.1)) 19 (nI u.2.1)) 20 u.2.2.2.2.1) 21 u.2.2.2.1) 22 (nI u.2.2.2.2.2.2.2.2.1)) 23 u.2.2.1) 24 u.2.2.2.2.2.1) 26 (nI ht)) (updR (updR (updR (updR R 5 (.ref pq)) 6 (.ref u.2.2.2.2.2.2.2.2.2)) 7 (.ref (a sp))) 8 (.ref (a op))) Z B u.2.2.2.2.2.2.1 K u.1)) (fun u => u.1)) ([.ref (a 5), .int (-3), .long x] : List Value).toArray s ({ frames := 8, cells := 0, slots := 0, locals := 188 } : Room).cells ({ frames := 8, cells := 0, slots := 0, locals := 188 } : Room).slots A) (F0 m 21 ls []) := by
    intro n_r
    induction n_r with
    | zero => intro k2 H locs ls w hk_r hn_r; omega
    | succ n_r ih_r =>
      intro k2 H locs ls w hk_r hn_r hk2 hP hD hS hO hl
      refine lv_iload hx hb dX5_leave_21 (lv_at hl 0 rfl) ?_
      refine lv_aload_n hx hb dX5_leave_23 rfl (lv_at hl 3 rfl) ?_
      refine c_get (v := .ref (it j9)) (C := RX5) (Tc := TX5) (N := 19) (ci := 4) hx hb hq pin_wsX50 hown hE hP hO 28 (sg_28 G h0 a _ _ _ _ _) rfl 9 (by decide) (hq _ pw_503) (fun _ h9 => h9) rfl dX5_leave_24 ?_
      refine p_get (v := .int (nI (yr1 y j9))) (C := RX6) (Tc := TX6) (N := 12) (ci := 12) hx hb hq pin_wsX60 hown hE hP hO (by rw [(hps.2.2.1.T (show j9 < nm by omega))]; decide) (rep_3 (hps.2.2.1.T (show j9 < nm by omega))) rfl 11 (by decide) (hq _ pw_708) (fun _ h9 => h9) (congrArg (fun z => some (Value.int z)) hmj.2.2.2.2.2.2.2.1) dX5_leave_27 ?_
      refine lv_icmp_ge (tgt := 106) hx hb dX5_leave_30 (by decide) (fun c1 => ?_) (fun c1 => ?_)
      · have n2 : (yr1 y j9) ≤ k2 := (nI_leI (a := (yr1 y j9)) (b := k2) (by omega) (by omega)).mp c1
        refine lv_iload_n hx hb dX5_leave_106 rfl (lv_at hl 2 rfl) ?_
        refine lv_if_lt (tgt := 118) hx hb dX5_leave_107 (by decide) (fun c3 => ?_) (fun c3 => absurd c3 (by decide))
        refine lv_aload_n hx hb dX5_leave_118 rfl (lv_at hl 3 rfl) ?_
        refine lv_lload_n hx hb dX5_leave_119 rfl (lv_at hl 1 rfl) ?_
        have hO : OKP G h0 a (upd (upd (upd (upd (upd (upd (upd (upd (upd (upd (upd (upd (upd (upd (upd (upd F 5 (nI cs)) 6 (nI rg)) 18 (nI ba)) 19 (nI tp)) 20 (nI pc)) 22 (nI on)) 23 5) 26 (nI ht)) 5 (nI cs)) 6 (nI rg)) 18 (nI ba)) 19 (nI tp)) 20 (nI pc)) 22 (nI on)) 23 5) 26 (nI ht)) (updR (updR (updR (updR (updR (updR (updR (updR R 5 (.ref pq)) 6 (.ref (it j9))) 7 (.ref (a sp))) 8 (.ref (a op))) 5 (.ref pq)) 6 (.ref (it j9))) 7 (.ref (a sp))) 8 (.ref (a op))) Z B J K w := hO.to rfl
        obtain ⟨_, qr7, hqr8⟩ := hO.2.1 28 _ (sg_28 G h0 a _ _ _ _ _)
        refine pc_V0 (G := G) (As := [.long x]) (rest := []) hx hb hml hown hq hE hX pX0_al hP hD hS hA hl.1 (Y_giveBack l G h0 a (upd (upd (upd (upd (upd (upd (upd (upd F 5 (nI cs)) 6 (nI rg)) 18 (nI ba)) 19 (nI tp)) 20 (nI pc)) 22 (nI on)) 23 5) 26 (nI ht)) (updR (updR (updR (updR R 5 (.ref pq)) 6 (.ref (it j9))) 7 (.ref (a sp))) 8 (.ref (a op))) Z B J K w y Sh nn on j9 ba pc tp sp op ht fl pq dr ml nd nm cp it s9 g rk cs rg x hsp hmw hmo hne hle htp hwp hps hrk hpy hcs9 hrv hO) (gV pw_715 pw_716 pw_717 pw_539 pw_706) hV_X5_giveBack qr7 4 hqr8 rfl rfl rfl (Nat.le_of_ble_eq_true rfl) dX5_leave_120 ⟨Nat.le_of_ble_eq_true rfl, Nat.le_of_ble_eq_true rfl⟩ ⟨Nat.le_of_ble_eq_true rfl, Nat.le_of_ble_eq_true rfl⟩ (fun v6 u4 H locs hw5 hP hD hS => ?_)
        obtain ⟨w, tp9, en10, nx11, pc12, rs13, J14, ba15, on16, mr17⟩ := u4
        obtain ⟨hw5, h18, h19, h20, hO⟩ := hw5
        have h18 : LvQ y it ((B 16)) ((B 19)) ((B 30)) Sh nn J14 sp ht fl (mT ((B 16)) ((B 30)) fl on pc) tp9 en10 nx11 ba15 on16 mr17 := h18
        have h19 : LoE J14 sp op := h19
        have h20 : tp9 ≤ 32000 ∧ ba15 ≤ 32000 ∧ on16 ≤ 100 := h20
        obtain rfl : v6 = none := hw5
        have hO : OKP G h0 a (upd (upd (upd (upd (upd (upd (upd (upd (upd (upd F 5 (nI cs)) 6 (nI rg)) 18 (nI ba15)) 19 (nI tp9)) 20 pc12) 21 nx11) 22 (nI on16)) 23 en10) 24 rs13) 26 (nI ht)) (updR (updR (updR (updR R 5 (.ref pq)) 6 (.ref mr17)) 7 (.ref (a sp))) 8 (.ref (a op))) Z B J14 K w := hO.to rfl
        refine W.widen (k := 0) (n := 0) (Nat.le_of_ble_eq_true rfl) (Nat.le_of_ble_eq_true rfl) ?_
        refine W.eq (g2 := F0 m 123 ls []) rfl ?_
        have hz21 : LvQ y it (B 16) (B 19) (B 30) Sh nn J14 sp ht fl (mT (B 16) (B 30) fl on pc) tp9 en10 nx11 ba15 on16 mr17 := h18
        have hz22 : LoE J14 sp op := h19
        have hz23 : tp9 ≤ 32000 ∧ ba15 ≤ 32000 ∧ on16 ≤ 100 := h20
        have hO : OKP G h0 a (upd (upd (upd (upd (upd (upd (upd (upd (upd (upd F 5 (nI cs)) 6 (nI rg)) 18 (nI ba15)) 19 (nI tp9)) 20 pc12) 21 nx11) 22 (nI on16)) 23 en10) 24 rs13) 26 (nI ht)) (updR (updR (updR (updR R 5 (.ref pq)) 6 (.ref mr17)) 7 (.ref (a sp))) 8 (.ref (a op))) Z B J14 K w := hO.to rfl
        exact W.vret hx hb hr (fun t99 ht99 hW99 => ⟨⟨_, (w, (tp9, en10, nx11, pc12, rs13, J14, ba15, on16, mr17)), rfl, ⟨rfl, hz21, hz22, hz23, hO⟩, by rw [ht99]; exact hP, hD⟩, hS.F ht99⟩) hS.2.2 dX5_leave_123
      · have n24 : ¬ ((yr1 y j9) ≤ k2) := fun h9 => c1 ((nI_leI (a := (yr1 y j9)) (b := k2) (by omega) (by omega)).mpr h9)
        obtain ⟨hv1, hv2, hv3, hv4, hv5, hv6, hv7, hv8, hv9, hva⟩ := hpy.2.2.1 k2 (by omega)
        refine lv_aload_n hx hb dX5_leave_33 rfl (lv_at hl 3 rfl) ?_
        refine c_get (v := .ref (a 2)) (C := RX5) (Tc := TX5) (N := 19) (ci := 4) hx hb hq pin_wsX50 hown hE hP hO 28 (sg_28 G h0 a _ _ _ _ _) rfl 0 (by decide) (hq _ pw_470) (fun _ h9 => h9) rfl dX5_leave_34 ?_
        refine lv_iload hx hb dX5_leave_37 (lv_at hl 0 rfl) ?_
        refine lv_aload_n hx hb dX5_leave_39 rfl (lv_at hl 3 rfl) ?_
        refine c_get (v := .int (nI pc)) (C := RX5) (Tc := TX5) (N := 19) (ci := 4) hx hb hq pin_wsX50 hown hE hP hO 28 (sg_28 G h0 a _ _ _ _ _) rfl 12 (by decide) (hq _ pw_506) (fun _ h9 => h9) rfl dX5_leave_40 ?_
        have hO : OKW G h0 a (upd (upd (upd (upd (upd (upd (upd (upd (upd F 5 (nI cs)) 6 (nI rg)) 18 (nI ba)) 19 (nI tp)) 20 (nI pc)) 22 (nI on)) 23 5) 26 (nI ht)) 6 (nI rg)) (updR (updR (updR (updR R 5 (.ref pq)) 6 (.ref (it j9))) 7 (.ref (a sp))) 8 (.ref (a op))) Z B J K.1 (fun q99 x99 => x99 = rep G a K q99) w := hO.to rfl
        obtain ⟨_, qr28, hqr29⟩ := hO.2.1 13 _ (sg_13 G h0 a _ _ _ _ _)
        refine pc_V0 (G := G) (As := [.int (nI k2), .int (nI pc)]) (rest := []) hx hb hml hown hq hE hX pX0_al hP hD hS hA hl.1 (Y_isWithin l G h0 a (upd (upd (upd (upd (upd (upd (upd (upd F 5 (nI cs)) 6 (nI rg)) 18 (nI ba)) 19 (nI tp)) 20 (nI pc)) 22 (nI on)) 23 5) 26 (nI ht)) (updR (updR (updR (updR R 5 (.ref pq)) 6 (.ref (it j9))) 7 (.ref (a sp))) 8 (.ref (a op))) Z B J K.1 (fun q99 x99 => x99 = rep G a K q99) w k2 rg pc ((yQ y).1 k2) ((yQ y).2.1 k2) (by omega) (by omega) (by omega) hv1 hv2 hO) (gV pw_709 pw_710 pw_711 pw_70 pw_383) hV_X1_isWithin qr28 1 hqr29 rfl rfl rfl (Nat.le_of_ble_eq_true rfl) dX5_leave_43 ⟨Nat.le_of_ble_eq_true rfl, Nat.le_of_ble_eq_true rfl⟩ ⟨Nat.le_of_ble_eq_true rfl, Nat.le_of_ble_eq_true rfl⟩ (fun v27 u25 H locs hw26 hP hD hS => ?_)
        obtain ⟨w, _⟩ := u25
        obtain ⟨hw26, hO⟩ := hw26
        obtain rfl : v27 = some (.int (nI (wiN ((yQ y).1 k2) ((yQ y).2.1 k2) pc))) := hw26
        have hO : OKP G h0 a (upd (upd (upd (upd (upd (upd (upd (upd F 5 (nI cs)) 6 (nI rg)) 18 (nI ba)) 19 (nI tp)) 20 (nI pc)) 22 (nI on)) 23 5) 26 (nI ht)) (updR (updR (updR (updR R 5 (.ref pq)) 6 (.ref (it j9))) 7 (.ref (a sp))) 8 (.ref (a op))) Z B J K w := hO.to rfl
        refine W.widen (k := 0) (n := 0) (Nat.le_of_ble_eq_true rfl) (Nat.le_of_ble_eq_true rfl) ?_
        refine W.eq (g2 := F0 m 46 ls [.int (nI (wiN ((yQ y).1 k2) ((yQ y).2.1 k2) pc))]) rfl ?_
        have hwi30 := wiN_le (s := (yQ y).1 k2) (e := (yQ y).2.1 k2) (x := pc)
        refine lv_if_eq (tgt := 70) hx hb dX5_leave_46 (by decide) (fun c31 => ?_) (fun c31 => ?_)
        · have n32 : (wiN ((yQ y).1 k2) ((yQ y).2.1 k2) pc) = 0 := (nI_eq (a := (wiN ((yQ y).1 k2) ((yQ y).2.1 k2) pc)) (b := 0) (by omega) (by omega)).mp c31
          refine lv_iconst (v := 0) hx hb dX5_leave_70 (by decide) ?_
          refine lv_istore (lv' := [(5, .int 0), (4, .int (nI k2)), (2, .long x), (1, .int (-3)), (0, .ref (a 5))]) hx hb dX5_leave_71 hl (by decide) rfl (fun ls hl => ?_)
          refine lv_iload hx hb dX5_leave_73 (lv_at hl 0 rfl) ?_
          refine lv_if_eq (tgt := 100) hx hb dX5_leave_75 (by decide) (fun c33 => ?_) (fun c33 => absurd c33 (by decide))
          refine lv_iinc (v := (nI (k2 + 1))) (lv' := [(4, .int (nI (k2 + 1))), (5, .int 0), (2, .long x), (1, .int (-3)), (0, .ref (a 5))]) hx hb dX5_leave_100 hl (k := 1) rfl (nI_1 k2) (by decide) rfl (fun ls hl => ?_)
          refine lv_goto (tgt := 21) hx hb dX5_leave_103 (by decide) ?_
          have hO : OKP G h0 a (upd (upd (upd (upd (upd (upd (upd (upd F 5 (nI cs)) 6 (nI rg)) 18 (nI ba)) 19 (nI tp)) 20 (nI pc)) 22 (nI on)) 23 5) 26 (nI ht)) (updR (updR (updR (updR R 5 (.ref pq)) 6 (.ref (it j9))) 7 (.ref (a sp))) 8 (.ref (a op))) Z B J K w := hO.to rfl
          exact ih_r (k2 + 1) _ _ _ _ (by omega) (by omega) (by omega) hP hD hS hO (lv_sub hl [0, 2, 3, 4] rfl)
        · have n34 : ¬ ((wiN ((yQ y).1 k2) ((yQ y).2.1 k2) pc) = 0) := fun h9 => c31 ((nI_eq (a := (wiN ((yQ y).1 k2) ((yQ y).2.1 k2) pc)) (b := 0) (by omega) (by omega)).mpr h9)
          have hin := wiN_of (s := (yQ y).1 k2) (e := (yQ y).2.1 k2) (x := pc) (fun z => c31 (by rw [z]; rfl))
          refine lv_iload_n hx hb dX5_leave_49 rfl (lv_at hl 2 rfl) ?_
          refine lv_if_lt (tgt := 66) hx hb dX5_leave_50 (by decide) (fun c35 => ?_) (fun c35 => absurd c35 (by decide))
          refine lv_iconst (v := 1) hx hb dX5_leave_66 (by decide) ?_
          refine lv_goto (tgt := 71) hx hb dX5_leave_67 (by decide) ?_
          refine lv_istore (lv' := [(5, .int 1), (4, .int (nI k2)), (2, .long x), (1, .int (-3)), (0, .ref (a 5))]) hx hb dX5_leave_71 hl (by decide) rfl (fun ls hl => ?_)
          refine lv_iload hx hb dX5_leave_73 (lv_at hl 0 rfl) ?_
          refine lv_if_eq (tgt := 100) hx hb dX5_leave_75 (by decide) (fun c36 => absurd c36 (by decide)) (fun c36 => ?_)
          refine lv_aload_n hx hb dX5_leave_78 rfl (lv_at hl 4 rfl) ?_
          refine c_get (v := .ref (a 2)) (C := RX5) (Tc := TX5) (N := 19) (ci := 4) hx hb hq pin_wsX50 hown hE hP hO 28 (sg_28 G h0 a _ _ _ _ _) rfl 0 (by decide) (hq _ pw_470) (fun _ h9 => h9) rfl dX5_leave_79 ?_
          refine lv_iload hx hb dX5_leave_82 (lv_at hl 1 rfl) ?_
          have hO : OKW G h0 a (upd (upd (upd (upd (upd (upd (upd (upd (upd F 5 (nI cs)) 6 (nI rg)) 18 (nI ba)) 19 (nI tp)) 20 (nI pc)) 22 (nI on)) 23 5) 26 (nI ht)) 6 (nI rg)) (updR (updR (updR (updR R 5 (.ref pq)) 6 (.ref (it j9))) 7 (.ref (a sp))) 8 (.ref (a op))) Z B J K.1 (fun q99 x99 => x99 = rep G a K q99) w := hO.to rfl
          obtain ⟨_, qr40, hqr41⟩ := hO.2.1 13 _ (sg_13 G h0 a _ _ _ _ _)
          refine pc_V0 (G := G) (As := [.int (nI k2)]) (rest := []) hx hb hml hown hq hE hX pX0_al hP hD hS hA hl.1 (Y_caught l G h0 a (upd (upd (upd (upd (upd (upd (upd (upd F 5 (nI cs)) 6 (nI rg)) 18 (nI ba)) 19 (nI tp)) 20 (nI pc)) 22 (nI on)) 23 5) 26 (nI ht)) (updR (updR (updR (updR R 5 (.ref pq)) 6 (.ref (it j9))) 7 (.ref (a sp))) 8 (.ref (a op))) Z B J K.1 (fun q99 x99 => x99 = rep G a K q99) w k2 rg (by omega) (by omega) hO) (gV pw_697 pw_698 pw_699 pw_70 pw_384) hV_X1_caught qr40 1 hqr41 rfl rfl rfl (Nat.le_of_ble_eq_true rfl) dX5_leave_84 ⟨Nat.le_of_ble_eq_true rfl, Nat.le_of_ble_eq_true rfl⟩ ⟨Nat.le_of_ble_eq_true rfl, Nat.le_of_ble_eq_true rfl⟩ (fun v39 u37 H locs hw38 hP hD hS => ?_)
          obtain ⟨w, _⟩ := u37
          obtain ⟨hw38, hO⟩ := hw38
          obtain rfl : v39 = some (.int ((B 23) k2)) := hw38
          have hO : OKP G h0 a (upd (upd (upd (upd (upd (upd (upd (upd F 5 (nI cs)) 6 (nI rg)) 18 (nI ba)) 19 (nI tp)) 20 (nI pc)) 22 (nI on)) 23 5) 26 (nI ht)) (updR (updR (updR (updR R 5 (.ref pq)) 6 (.ref (it j9))) 7 (.ref (a sp))) 8 (.ref (a op))) Z B J K w := hO.to rfl
          refine W.widen (k := 0) (n := 0) (Nat.le_of_ble_eq_true rfl) (Nat.le_of_ble_eq_true rfl) ?_
          refine W.eq (g2 := F0 m 87 ls [.int ((B 23) k2)]) rfl ?_
          rw [hv4]
          rcases hva with hcl | ⟨c7, hc7, hcl⟩
          · rw [hcl]
            refine W.eq (g2 := F0 m 87 ls [.int (-1)]) rfl ?_
            refine lv_iconst (v := (-1)) hx hb dX5_leave_87 (by decide) ?_
            refine lv_icmp_ne (tgt := 100) hx hb dX5_leave_88 (by decide) (fun c42 => absurd c42 (by decide)) (fun c42 => ?_)
            refine lv_aload_n hx hb dX5_leave_91 rfl (lv_at hl 4 rfl) ?_
            refine lv_iload hx hb dX5_leave_92 (lv_at hl 1 rfl) ?_
            refine lv_iload_n hx hb dX5_leave_94 rfl (lv_at hl 3 rfl) ?_
            refine lv_lload_n hx hb dX5_leave_95 rfl (lv_at hl 2 rfl) ?_
            have hsw := MWy.slot hmw hmo (k := k2) ⟨hk2, by omega⟩ hin
            have hsw2 := hsw.2.1 hcl
            have hO : OKP G h0 a (upd (upd (upd (upd (upd (upd (upd (upd (upd (upd F 5 (nI cs)) 6 (nI rg)) 18 (nI ba)) 19 (nI tp)) 20 (nI pc)) 22 (nI on)) 23 5) 26 (nI ht)) 6 (nI rg)) 18 (nI ba)) (updR (updR (updR (updR (updR (updR R 5 (.ref pq)) 6 (.ref (it j9))) 7 (.ref (a sp))) 8 (.ref (a op))) 5 (.ref pq)) 6 (.ref (it j9))) Z B J K w := hO.to rfl
            obtain ⟨_, qr46, hqr47⟩ := hO.2.1 28 _ (sg_28 G h0 a _ _ _ _ _)
            refine pc_V0 (G := G) (As := [.int (nI k2), .int (-3), .long x]) (rest := []) hx hb hml hown hq hE hX pX0_al hP hD hS hA hl.1 (Y_landL l G h0 a (upd (upd (upd (upd (upd (upd (upd (upd F 5 (nI cs)) 6 (nI rg)) 18 (nI ba)) 19 (nI tp)) 20 (nI pc)) 22 (nI on)) 23 5) 26 (nI ht)) (updR (updR (updR (updR R 5 (.ref pq)) 6 (.ref (it j9))) 7 (.ref (a sp))) 8 (.ref (a op))) Z B J K w y j9 ba k2 0 (-3) x pq dr ml nd nm cp it s9 g rk cs rg hwp hps hrk hpy (by omega) (by omega) (by omega) hcl (by omega) hsj hO) (gV pw_712 pw_713 pw_714 pw_539 pw_700) hV_X5_land qr46 4 hqr47 rfl rfl rfl (Nat.le_of_ble_eq_true rfl) dX5_leave_96 ⟨Nat.le_of_ble_eq_true rfl, Nat.le_of_ble_eq_true rfl⟩ ⟨Nat.le_of_ble_eq_true rfl, Nat.le_of_ble_eq_true rfl⟩ (fun v45 u43 H locs hw44 hP hD hS => ?_)
            obtain ⟨w, _⟩ := u43
            obtain ⟨hw44, hO⟩ := hw44
            obtain rfl : v45 = none := hw44
            have hO : OKP G h0 a (upd (upd (upd (upd (upd (upd (upd (upd (upd F 5 (nI cs)) 6 (nI rg)) 18 (nI ba)) 19 (nI (ba + ysl y j9))) 20 (nI pc)) 21 (nI ((yQ y).2.2.1 k2))) 22 (nI on)) 23 5) 26 (nI ht)) (updR (updR (updR (updR R 5 (.ref pq)) 6 (.ref (it j9))) 7 (.ref (a sp))) 8 (.ref (a op))) Z B (updJ J 29 (vp_updL (vp_updL ((J 29)) (ba + ((yQ y).2.2.2.1 k2)) (nmV (-3))) (ba + (((yQ y).2.2.2.1 k2) + 1)) x)) K w := hO.to rfl
            refine W.widen (k := 0) (n := 0) (Nat.le_of_ble_eq_true rfl) (Nat.le_of_ble_eq_true rfl) ?_
            refine W.eq (g2 := F0 m 99 ls []) rfl ?_
            have hz48 : LvQ y it (B 16) (B 19) (B 30) Sh nn (updJ J 29 (vp_updL (vp_updL ((J 29)) (ba + ((yQ y).2.2.2.1 k2)) (nmV (-3))) (ba + (((yQ y).2.2.2.1 k2) + 1)) x)) sp ht fl (mT (B 16) (B 30) fl on pc) (ba + ysl y j9) (5 : Int32) (nI ((yQ y).2.2.1 k2)) ba on (it j9) := (LvQ.last (y0 := (-3)) hmw hmo hne ⟨hk2, by omega⟩ hin hcl hvo (fun e he => Or.inr (Or.inr (Or.inl ⟨rfl, hrv⟩))) h29.1)
            have hz49 : LoE (updJ J 29 (vp_updL (vp_updL ((J 29)) (ba + ((yQ y).2.2.2.1 k2)) (nmV (-3))) (ba + (((yQ y).2.2.2.1 k2) + 1)) x)) sp op := (LoE.up hle h29.1 h29.2)
            have hz50 : (ba + ysl y j9) ≤ 32000 ∧ ba ≤ 32000 ∧ on ≤ 100 := (by omega)
            have hO : OKP G h0 a (upd (upd (upd (upd (upd (upd (upd (upd (upd (upd F 5 (nI cs)) 6 (nI rg)) 18 (nI ba)) 19 (nI (ba + ysl y j9))) 20 (nI pc)) 21 (nI ((yQ y).2.2.1 k2))) 22 (nI on)) 23 (5 : Int32)) 24 (F 24)) 26 (nI ht)) (updR (updR (updR (updR R 5 (.ref pq)) 6 (.ref (it j9))) 7 (.ref (a sp))) 8 (.ref (a op))) Z B (updJ J 29 (vp_updL (vp_updL ((J 29)) (ba + ((yQ y).2.2.2.1 k2)) (nmV (-3))) (ba + (((yQ y).2.2.2.1 k2) + 1)) x)) K w := hO.to rfl
            exact W.vret hx hb hr (fun t99 ht99 hW99 => ⟨⟨_, (w, ((ba + ysl y j9), (5 : Int32), (nI ((yQ y).2.2.1 k2)), (nI pc), (F 24), (updJ J 29 (vp_updL (vp_updL ((J 29)) (ba + ((yQ y).2.2.2.1 k2)) (nmV (-3))) (ba + (((yQ y).2.2.2.1 k2) + 1)) x)), ba, on, (it j9))), rfl, ⟨rfl, hz48, hz49, hz50, hO⟩, by rw [ht99]; exact hP, hD⟩, hS.F ht99⟩) hS.2.2 dX5_leave_99
          · rw [hcl]
            refine W.eq (g2 := F0 m 87 ls [.int (nI c7)]) rfl ?_
            refine lv_iconst (v := (-1)) hx hb dX5_leave_87 (by decide) ?_
            refine lv_icmp_ne (tgt := 100) hx hb dX5_leave_88 (by decide) (fun c51 => ?_) (fun c51 => (nI_m1 (n := c7) (by omega) c51).elim)
            refine lv_iinc (v := (nI (k2 + 1))) (lv' := [(4, .int (nI (k2 + 1))), (5, .int 1), (2, .long x), (1, .int (-3)), (0, .ref (a 5))]) hx hb dX5_leave_100 hl (k := 1) rfl (nI_1 k2) (by decide) rfl (fun ls hl => ?_)
            refine lv_goto (tgt := 21) hx hb dX5_leave_103 (by decide) ?_
            have hO : OKP G h0 a (upd (upd (upd (upd (upd (upd (upd (upd F 5 (nI cs)) 6 (nI rg)) 18 (nI ba)) 19 (nI tp)) 20 (nI pc)) 22 (nI on)) 23 5) 26 (nI ht)) (updR (updR (updR (updR R 5 (.ref pq)) 6 (.ref (it j9))) 7 (.ref (a sp))) 8 (.ref (a op))) Z B J K w := hO.to rfl
            exact ih_r (k2 + 1) _ _ _ _ (by omega) (by omega) (by omega) hP hD hS hO (lv_sub hl [0, 2, 3, 4] rfl)
  have hO : OKP G h0 a (upd (upd (upd (upd (upd (upd (upd (upd F 5 (nI cs)) 6 (nI rg)) 18 (nI ba)) 19 (nI tp)) 20 (nI pc)) 22 (nI on)) 23 5) 26 (nI ht)) (updR (updR (updR (updR R 5 (.ref pq)) 6 (.ref (it j9))) 7 (.ref (a sp))) 8 (.ref (a op))) Z B J K w := hO.to rfl
  exact loop_r ((yr1 y j9) + 1) (yr0 y j9) _ _ _ _ (by omega) (by omega) (by omega) hP hD hS hO (lv_sub hl [0, 3, 2, 1] rfl)
set_option maxHeartbeats 40000000 in
set_option maxRecDepth 100000 in
theorem Y_leaveJ (l : Launch) (G : pT) (h0 : Nat) (a : Nat → Nat) (F : Nat → Int32) (R : Nat → Value) (Z : Int64) (B : Nat → Nat → Int32) (J : Nat → Nat → Int64) (K : PK) (w : va_W) (y : TY) (Sh : Nat → Nat) (nn : Nat → Nat) (on : Nat) (j9 : Nat) (ba : Nat) (pc : Nat) (tp : Nat) (sp : Nat) (op : Nat) (ht : Nat) (fl : Nat) (pq : Nat) (dr : Nat) (ml : Nat) (nd : Nat) (nm : Nat) (cp : Nat) (it : Nat → Nat) (s9 : Nat) (g : Nat → Nat → Nat) (rk : Nat → Nat) (cs : Nat) (rg : Nat) (x : Int64) (x9 : Nat) (hsp : (sp = 34 ∧ op = 35) ∨ (sp = 35 ∧ op = 34)) (hmw : MWy y (B 19) Sh nn (J sp) ht (B 30) (J 29) on j9 ba pc) (hmo : MOy y (B 16) (B 17) (B 18) (B 19) j9) (hne : ¬ B 16 pc = 0) (hle : LoE J sp op) (htp : tp ≤ 32000) (hwp : WPr G K g) (hps : PgT G K g (a 1) pq dr ml nd nm cp it s9) (hrk : RkO K rk) (hpy : PrY y K B dr nd nm it cs rg) (hcs9 : cs ≤ 10000) (hvo : VO Sh x) (hjx : MIy y (B 19) Sh nn (J sp) ht (B 30) (J 29) on j9 ba x9 tp) (hx9 : pc < x9 ∧ x9 < 10000) (hwx : ∀ k : Nat, lsR (yQ y) (yr0 y j9) (yr1 y j9) k → inR (yQ y) k pc → ¬ inR (yQ y) k x9 → ywp y j9 ((yQ y).2.2.1 k) x9) (hrg : rg ≤ 625) (hO : OKP G h0 a (upd (upd (upd (upd (upd (upd (upd (upd F 5 (nI cs)) 6 (nI rg)) 18 (nI ba)) 19 (nI tp)) 20 (nI pc)) 22 (nI on)) 23 5) 26 (nI ht)) (updR (updR (updR (updR R 5 (.ref pq)) 6 (.ref (it j9))) 7 (.ref (a sp))) 8 (.ref (a op))) Z B J K w) : PM l G pX0 yX5_leave cX5_leave 6 none ({ frames := 4, cells := 0, slots := 0, locals := 109 }) [.ref (a 5), .int (nI x9), .long x] w (fun (v : Option Value) (u : va_W × (Nat × Int32 × Int32 × Int32 × Int32 × (Nat → Nat → Int64) × Nat × Nat × Nat)) => v = none ∧ (LvQ y it (B 16) (B 19) (B 30) Sh nn u.2.2.2.2.2.2.1 sp ht fl (mT (B 16) (B 30) fl on pc) u.2.1 u.2.2.1 u.2.2.2.1 u.2.2.2.2.2.2.2.1 u.2.2.2.2.2.2.2.2.1 u.2.2.2.2.2.2.2.2.2) ∧ (LoE u.2.2.2.2.2.2.1 sp op) ∧ (u.2.1 ≤ 32000 ∧ u.2.2.2.2.2.2.2.1 ≤ 32000 ∧ u.2.2.2.2.2.2.2.2.1 ≤ 100) ∧ (OKP G h0 a (upd (upd (upd (upd (upd (upd (upd (upd (upd (upd F 5 (nI cs)) 6 (nI rg)) 18 (nI u.2.2.2.2.2.2.2.1)) 19 (nI u.2.1)) 20 u.2.2.2.2.1) 21 u.2.2.2.1) 22 (nI u.2.2.2.2.2.2.2.2.1)) 23 u.2.2.1) 24 u.2.2.2.2.2.1) 26 (nI ht)) (updR (updR (updR (updR R 5 (.ref pq)) 6 (.ref u.2.2.2.2.2.2.2.2.2)) 7 (.ref (a sp))) 8 (.ref (a op))) Z B u.2.2.2.2.2.2.1 K u.1)) (fun u => u.1) := by
  intro sz
  refine Met.ofW (cc := cX5_leave) (maxL := 6) (ret := none) (by decide) rfl ?_
  intro p e s m args below meth c s₁ B9 hml hv
  obtain ⟨rfl, hsz, hP, hD0, hE, hX⟩ := hv
  have hx := B9.exec
  have hb := B9.bytes
  have hr := B9.returns
  have hts := atoms_spec (ws := Cond.code yX5_leave cX5_leave 6 none :: pw) B9.pre
  have hq : ∀ w ∈ pw, w.before _ s = true := fun w h => hts w (List.mem_cons_of_mem _ h)
  have hown : s.vm.findClass RX5 = some m.cls := findClass_of_methodNamed B9.named
  have hlocks := B9.notSynchronized
  subst hsz
  have hD := hD0.self (sz := s.heap.size)
  have hA : ∀ q : Nat, s.heap.size ≤ q → va_A w s.heap.size q := fun q h => Or.inr h
  generalize va_A w s.heap.size = A at hD hE hA ⊢
  have hS : va_S A s.heap s.heap [] := va_S.rf
  have hl := lv_entry ([.ref (a 5), .int (nI x9), .long x]) (n := 6) (Nat.le_of_ble_eq_true rfl)
  rw [lg_entry_eq]
  generalize (lg_sl ([.ref (a 5), .int (nI x9), .long x]) ++ List.replicate (6 - (lg_sl ([.ref (a 5), .int (nI x9), .long x])).length) Slot.unset).toArray = ls at hl ⊢
  have hl : lv_has ls 6 [(0, .ref (a 5)), (1, .int (nI x9)), (2, .long x)] := hl
  have hpg := hps.1
  have hp1 := hpg.1
  have hp2 := hpg.2.1
  have hp3 := hpg.2.2.1
  have hp4 := hpg.2.2.2.1
  have hp5 := hpg.2.2.2.2.1
  have hp6 := hpg.2.2.2.2.2.1
  have hp8 := hpg.2.2.2.2.2.2.2.1
  have hp9 := hpg.2.2.2.2.2.2.2.2
  have h29 : ¬ sp = 29 ∧ ¬ op = 29 := by omega
  obtain ⟨hb1, hb2, hb3, hb4, hb5, hb6⟩ := hmw.1.1
  have hnmE := hpy.1.1
  have hnm9 := hps.2.2.1.2.2.1
  have hmj := hpy.2.1 j9 (by omega)
  have hsj : ysl y j9 ≤ 319 := by have z9 := (hmo.2.2.2.1 pc hb4 hb5 hmw.1.2.1.1.1).2.2.1; have e9 : ysl y j9 = (yM y).2.1 j9 := rfl; omega
  have hbj : yhi y j9 ≤ 10000 := hmo.2.1.2
  have hb5y : pc < yhi y j9 := hb5
  have hrj := hmj.2.2.2.2.2.2.2.2.1
  refine lv_aload_n hx hb dX5_leave_0 rfl (lv_at hl 0 rfl) ?_
  refine c_get (v := .ref (it j9)) (C := RX5) (Tc := TX5) (N := 19) (ci := 4) hx hb hq pin_wsX50 hown hE hP hO 28 (sg_28 G h0 a _ _ _ _ _) rfl 9 (by decide) (hq _ pw_503) (fun _ h9 => h9) rfl dX5_leave_1 ?_
  refine lv_ifnonnull (tgt := 12) hx hb dX5_leave_4 (by decide) ?_
  refine lv_aload_n hx hb dX5_leave_12 rfl (lv_at hl 0 rfl) ?_
  refine c_get (v := .ref (it j9)) (C := RX5) (Tc := TX5) (N := 19) (ci := 4) hx hb hq pin_wsX50 hown hE hP hO 28 (sg_28 G h0 a _ _ _ _ _) rfl 9 (by decide) (hq _ pw_503) (fun _ h9 => h9) rfl dX5_leave_13 ?_
  refine p_get (v := .int (nI (yr0 y j9))) (C := RX6) (Tc := TX6) (N := 12) (ci := 12) hx hb hq pin_wsX60 hown hE hP hO (by rw [(hps.2.2.1.T (show j9 < nm by omega))]; decide) (rep_3 (hps.2.2.1.T (show j9 < nm by omega))) rfl 10 (by decide) (hq _ pw_707) (fun _ h9 => h9) (congrArg (fun z => some (Value.int z)) hmj.2.2.2.2.2.2.1) dX5_leave_16 ?_
  refine lv_istore (lv' := [(4, .int (nI (yr0 y j9))), (0, .ref (a 5)), (1, .int (nI x9)), (2, .long x)]) hx hb dX5_leave_19 hl (by decide) rfl (fun ls hl => ?_)
  have loop_r : ∀ (n_r : Nat) (k2 : Nat) (H : Heap) (locs : List Loc) (ls : Array Slot) (w : va_W), k2 ≤ (yr1 y j9) → (yr1 y j9) + 1 ≤ k2 + n_r → (yr0 y j9 ≤ k2) → va_P G.1 pCl w H → va_D A w → va_S A s.heap H locs → OKP G h0 a (upd (upd (upd (upd (upd (upd (upd (upd F 5 (nI cs)) 6 (nI rg)) 18 (nI ba)) 19 (nI tp)) 20 (nI pc)) 22 (nI on)) 23 5) 26 (nI ht)) (updR (updR (updR (updR R 5 (.ref pq)) 6 (.ref (it j9))) 7 (.ref (a sp))) 8 (.ref (a op))) Z B J K w → lv_has ls 6 [(4, .int (nI k2)), (2, .long x), (1, .int (nI x9)), (0, .ref (a 5))] → W p l e (headSpec (Cond.code yX5_leave cX5_leave 6 none :: pw) ({ frames := 4, cells := 0, slots := 0, locals := 109 } : Room)).room s m ([.ref (a 5), .int (nI x9), .long x] : List Value).toArray below meth c H locs 0 0 (MQ below (pQ G A (fun (v : Option Value) (u : va_W × (Nat × Int32 × Int32 × Int32 × Int32 × (Nat → Nat → Int64) × Nat × Nat × Nat)) => v = none ∧ (LvQ y it (B 16) (B 19) (B 30) Sh nn u.2.2.2.2.2.2.1 sp ht fl (mT (B 16) (B 30) fl on pc) u.2.1 u.2.2.1 u.2.2.2.1 u.2.2.2.2.2.2.2.1 u.2.2.2.2.2.2.2.2.1 u.2.2.2.2.2.2.2.2.2) ∧ (LoE u.2.2.2.2.2.2.1 sp op) ∧ (u.2.1 ≤ 32000 ∧ u.2.2.2.2.2.2.2.1 ≤ 32000 ∧ u.2.2.2.2.2.2.2.2.1 ≤ 100) ∧ (OKP G h0 a (upd (upd (upd (upd (upd (upd (upd (upd (upd (upd F 5 (nI cs)) 6 (nI rg)) 18 (nI u.2.2.2.2.2.2.2.1)) 19 (nI u.2.1)) 20 u.2.2.2.2.1) 21 u.2.2.2.1) 22 (nI u.2.2.2.2.2.2.2.2.1)) 23 u.2.2.1) 24 u.2.2.2.2.2.1) 26 (nI ht)) (updR (updR (updR (updR R 5 (.ref pq)) 6 (.ref u.2.2.2.2.2.2.2.2.2)) 7 (.ref (a sp))) 8 (.ref (a op))) Z B u.2.2.2.2.2.2.1 K u.1)) (fun u => u.1)) ([.ref (a 5), .int (nI x9), .long x] : List Value).toArray s ({ frames := 4, cells := 0, slots := 0, locals := 109 } : Room).cells ({ frames := 4, cells := 0, slots := 0, locals := 109 } : Room).slots A) (F0 m 21 ls []) := by
    intro n_r
    induction n_r with
    | zero => intro k2 H locs ls w hk_r hn_r; omega
    | succ n_r ih_r =>
      intro k2 H locs ls w hk_r hn_r hk2 hP hD hS hO hl
      refine lv_iload hx hb dX5_leave_21 (lv_at hl 0 rfl) ?_
      refine lv_aload_n hx hb dX5_leave_23 rfl (lv_at hl 3 rfl) ?_
      refine c_get (v := .ref (it j9)) (C := RX5) (Tc := TX5) (N := 19) (ci := 4) hx hb hq pin_wsX50 hown hE hP hO 28 (sg_28 G h0 a _ _ _ _ _) rfl 9 (by decide) (hq _ pw_503) (fun _ h9 => h9) rfl dX5_leave_24 ?_
      refine p_get (v := .int (nI (yr1 y j9))) (C := RX6) (Tc := TX6) (N := 12) (ci := 12) hx hb hq pin_wsX60 hown hE hP hO (by rw [(hps.2.2.1.T (show j9 < nm by omega))]; decide) (rep_3 (hps.2.2.1.T (show j9 < nm by omega))) rfl 11 (by decide) (hq _ pw_708) (fun _ h9 => h9) (congrArg (fun z => some (Value.int z)) hmj.2.2.2.2.2.2.2.1) dX5_leave_27 ?_
      refine lv_icmp_ge (tgt := 106) hx hb dX5_leave_30 (by decide) (fun c1 => ?_) (fun c1 => ?_)
      · have n2 : (yr1 y j9) ≤ k2 := (nI_leI (a := (yr1 y j9)) (b := k2) (by omega) (by omega)).mp c1
        refine lv_iload_n hx hb dX5_leave_106 rfl (lv_at hl 2 rfl) ?_
        refine lv_if_lt (tgt := 118) hx hb dX5_leave_107 (by decide) (fun c3 => (by have n4 : x9 < 0 := (nI_ltI (a := x9) (b := 0) (by omega) (by omega)).mp c3; omega)) (fun c3 => ?_)
        refine lv_aload_n hx hb dX5_leave_110 rfl (lv_at hl 3 rfl) ?_
        refine lv_iload_n hx hb dX5_leave_111 rfl (lv_at hl 2 rfl) ?_
        refine c_put (v := .int (nI x9)) (ty := .int) (C := RX5) (Tc := TX5) (N := 19) (ci := 4) hx hb hq pin_wsX50 tyX5 tyX5_ok nmX5 hown hE hP hD hS hO 28 (sg_28 G h0 a _ _ _ _ _) rfl 13 (by decide) (hq _ pw_566) (fun _ h9 => h9) rfl (by decide +kernel) rfl rfl (Nat.le_of_ble_eq_true rfl) (sf_21 G h0 a _ _ _ _ _ (nI x9)) dX5_leave_112 (fun H locs w hP hD hS hO => ?_)
        refine lv_goto (tgt := 123) hx hb dX5_leave_115 (by decide) ?_
        have hz5 : LvQ y it (B 16) (B 19) (B 30) Sh nn J sp ht fl (mT (B 16) (B 30) fl on pc) tp (5 : Int32) (nI x9) ba on (it j9) := (LvQ.jump hjx hne (by omega) hx9.1)
        have hz6 : LoE J sp op := hle
        have hz7 : tp ≤ 32000 ∧ ba ≤ 32000 ∧ on ≤ 100 := (by omega)
        have hO : OKP G h0 a (upd (upd (upd (upd (upd (upd (upd (upd (upd (upd F 5 (nI cs)) 6 (nI rg)) 18 (nI ba)) 19 (nI tp)) 20 (nI pc)) 21 (nI x9)) 22 (nI on)) 23 (5 : Int32)) 24 (F 24)) 26 (nI ht)) (updR (updR (updR (updR R 5 (.ref pq)) 6 (.ref (it j9))) 7 (.ref (a sp))) 8 (.ref (a op))) Z B J K w := hO.to rfl
        exact W.vret hx hb hr (fun t99 ht99 hW99 => ⟨⟨_, (w, (tp, (5 : Int32), (nI x9), (nI pc), (F 24), J, ba, on, (it j9))), rfl, ⟨rfl, hz5, hz6, hz7, hO⟩, by rw [ht99]; exact hP, hD⟩, hS.F ht99⟩) hS.2.2 dX5_leave_123
      · have n8 : ¬ ((yr1 y j9) ≤ k2) := fun h9 => c1 ((nI_leI (a := (yr1 y j9)) (b := k2) (by omega) (by omega)).mpr h9)
        obtain ⟨hv1, hv2, hv3, hv4, hv5, hv6, hv7, hv8, hv9, hva⟩ := hpy.2.2.1 k2 (by omega)
        refine lv_aload_n hx hb dX5_leave_33 rfl (lv_at hl 3 rfl) ?_
        refine c_get (v := .ref (a 2)) (C := RX5) (Tc := TX5) (N := 19) (ci := 4) hx hb hq pin_wsX50 hown hE hP hO 28 (sg_28 G h0 a _ _ _ _ _) rfl 0 (by decide) (hq _ pw_470) (fun _ h9 => h9) rfl dX5_leave_34 ?_
        refine lv_iload hx hb dX5_leave_37 (lv_at hl 0 rfl) ?_
        refine lv_aload_n hx hb dX5_leave_39 rfl (lv_at hl 3 rfl) ?_
        refine c_get (v := .int (nI pc)) (C := RX5) (Tc := TX5) (N := 19) (ci := 4) hx hb hq pin_wsX50 hown hE hP hO 28 (sg_28 G h0 a _ _ _ _ _) rfl 12 (by decide) (hq _ pw_506) (fun _ h9 => h9) rfl dX5_leave_40 ?_
        have hO : OKW G h0 a (upd (upd (upd (upd (upd (upd (upd (upd (upd F 5 (nI cs)) 6 (nI rg)) 18 (nI ba)) 19 (nI tp)) 20 (nI pc)) 22 (nI on)) 23 5) 26 (nI ht)) 6 (nI rg)) (updR (updR (updR (updR R 5 (.ref pq)) 6 (.ref (it j9))) 7 (.ref (a sp))) 8 (.ref (a op))) Z B J K.1 (fun q99 x99 => x99 = rep G a K q99) w := hO.to rfl
        obtain ⟨_, qr12, hqr13⟩ := hO.2.1 13 _ (sg_13 G h0 a _ _ _ _ _)
        refine pc_V0 (G := G) (As := [.int (nI k2), .int (nI pc)]) (rest := []) hx hb hml hown hq hE hX pX0_al hP hD hS hA hl.1 (Y_isWithin l G h0 a (upd (upd (upd (upd (upd (upd (upd (upd F 5 (nI cs)) 6 (nI rg)) 18 (nI ba)) 19 (nI tp)) 20 (nI pc)) 22 (nI on)) 23 5) 26 (nI ht)) (updR (updR (updR (updR R 5 (.ref pq)) 6 (.ref (it j9))) 7 (.ref (a sp))) 8 (.ref (a op))) Z B J K.1 (fun q99 x99 => x99 = rep G a K q99) w k2 rg pc ((yQ y).1 k2) ((yQ y).2.1 k2) (by omega) (by omega) (by omega) hv1 hv2 hO) (gV pw_709 pw_710 pw_711 pw_70 pw_383) hV_X1_isWithin qr12 1 hqr13 rfl rfl rfl (Nat.le_of_ble_eq_true rfl) dX5_leave_43 ⟨Nat.le_of_ble_eq_true rfl, Nat.le_of_ble_eq_true rfl⟩ ⟨Nat.le_of_ble_eq_true rfl, Nat.le_of_ble_eq_true rfl⟩ (fun v11 u9 H locs hw10 hP hD hS => ?_)
        obtain ⟨w, _⟩ := u9
        obtain ⟨hw10, hO⟩ := hw10
        obtain rfl : v11 = some (.int (nI (wiN ((yQ y).1 k2) ((yQ y).2.1 k2) pc))) := hw10
        have hO : OKP G h0 a (upd (upd (upd (upd (upd (upd (upd (upd F 5 (nI cs)) 6 (nI rg)) 18 (nI ba)) 19 (nI tp)) 20 (nI pc)) 22 (nI on)) 23 5) 26 (nI ht)) (updR (updR (updR (updR R 5 (.ref pq)) 6 (.ref (it j9))) 7 (.ref (a sp))) 8 (.ref (a op))) Z B J K w := hO.to rfl
        refine W.widen (k := 0) (n := 0) (Nat.le_of_ble_eq_true rfl) (Nat.le_of_ble_eq_true rfl) ?_
        refine W.eq (g2 := F0 m 46 ls [.int (nI (wiN ((yQ y).1 k2) ((yQ y).2.1 k2) pc))]) rfl ?_
        have hwi14 := wiN_le (s := (yQ y).1 k2) (e := (yQ y).2.1 k2) (x := pc)
        refine lv_if_eq (tgt := 70) hx hb dX5_leave_46 (by decide) (fun c15 => ?_) (fun c15 => ?_)
        · have n16 : (wiN ((yQ y).1 k2) ((yQ y).2.1 k2) pc) = 0 := (nI_eq (a := (wiN ((yQ y).1 k2) ((yQ y).2.1 k2) pc)) (b := 0) (by omega) (by omega)).mp c15
          refine lv_iconst (v := 0) hx hb dX5_leave_70 (by decide) ?_
          refine lv_istore (lv' := [(5, .int 0), (4, .int (nI k2)), (2, .long x), (1, .int (nI x9)), (0, .ref (a 5))]) hx hb dX5_leave_71 hl (by decide) rfl (fun ls hl => ?_)
          refine lv_iload hx hb dX5_leave_73 (lv_at hl 0 rfl) ?_
          refine lv_if_eq (tgt := 100) hx hb dX5_leave_75 (by decide) (fun c17 => ?_) (fun c17 => absurd c17 (by decide))
          refine lv_iinc (v := (nI (k2 + 1))) (lv' := [(4, .int (nI (k2 + 1))), (5, .int 0), (2, .long x), (1, .int (nI x9)), (0, .ref (a 5))]) hx hb dX5_leave_100 hl (k := 1) rfl (nI_1 k2) (by decide) rfl (fun ls hl => ?_)
          refine lv_goto (tgt := 21) hx hb dX5_leave_103 (by decide) ?_
          have hO : OKP G h0 a (upd (upd (upd (upd (upd (upd (upd (upd F 5 (nI cs)) 6 (nI rg)) 18 (nI ba)) 19 (nI tp)) 20 (nI pc)) 22 (nI on)) 23 5) 26 (nI ht)) (updR (updR (updR (updR R 5 (.ref pq)) 6 (.ref (it j9))) 7 (.ref (a sp))) 8 (.ref (a op))) Z B J K w := hO.to rfl
          exact ih_r (k2 + 1) _ _ _ _ (by omega) (by omega) (by omega) hP hD hS hO (lv_sub hl [0, 2, 3, 4] rfl)
        · have n18 : ¬ ((wiN ((yQ y).1 k2) ((yQ y).2.1 k2) pc) = 0) := fun h9 => c15 ((nI_eq (a := (wiN ((yQ y).1 k2) ((yQ y).2.1 k2) pc)) (b := 0) (by omega) (by omega)).mpr h9)
          have hin := wiN_of (s := (yQ y).1 k2) (e := (yQ y).2.1 k2) (x := pc) (fun z => c15 (by rw [z]; rfl))
          refine lv_iload_n hx hb dX5_leave_49 rfl (lv_at hl 2 rfl) ?_
          refine lv_if_lt (tgt := 66) hx hb dX5_leave_50 (by decide) (fun c19 => (by have n20 : x9 < 0 := (nI_ltI (a := x9) (b := 0) (by omega) (by omega)).mp c19; omega)) (fun c19 => ?_)
          refine lv_aload_n hx hb dX5_leave_53 rfl (lv_at hl 3 rfl) ?_
          refine c_get (v := .ref (a 2)) (C := RX5) (Tc := TX5) (N := 19) (ci := 4) hx hb hq pin_wsX50 hown hE hP hO 28 (sg_28 G h0 a _ _ _ _ _) rfl 0 (by decide) (hq _ pw_470) (fun _ h9 => h9) rfl dX5_leave_54 ?_
          refine lv_iload hx hb dX5_leave_57 (lv_at hl 0 rfl) ?_
          refine lv_iload_n hx hb dX5_leave_59 rfl (lv_at hl 2 rfl) ?_
          have hO : OKW G h0 a (upd (upd (upd (upd (upd (upd (upd (upd (upd F 5 (nI cs)) 6 (nI rg)) 18 (nI ba)) 19 (nI tp)) 20 (nI pc)) 22 (nI on)) 23 5) 26 (nI ht)) 6 (nI rg)) (updR (updR (updR (updR R 5 (.ref pq)) 6 (.ref (it j9))) 7 (.ref (a sp))) 8 (.ref (a op))) Z B J K.1 (fun q99 x99 => x99 = rep G a K q99) w := hO.to rfl
          obtain ⟨_, qr24, hqr25⟩ := hO.2.1 13 _ (sg_13 G h0 a _ _ _ _ _)
          refine pc_V0 (G := G) (As := [.int (nI k2), .int (nI x9)]) (rest := []) hx hb hml hown hq hE hX pX0_al hP hD hS hA hl.1 (Y_isWithin l G h0 a (upd (upd (upd (upd (upd (upd (upd (upd F 5 (nI cs)) 6 (nI rg)) 18 (nI ba)) 19 (nI tp)) 20 (nI pc)) 22 (nI on)) 23 5) 26 (nI ht)) (updR (updR (updR (updR R 5 (.ref pq)) 6 (.ref (it j9))) 7 (.ref (a sp))) 8 (.ref (a op))) Z B J K.1 (fun q99 x99 => x99 = rep G a K q99) w k2 rg x9 ((yQ y).1 k2) ((yQ y).2.1 k2) (by omega) (by omega) (by omega) hv1 hv2 hO) (gV pw_709 pw_710 pw_711 pw_70 pw_383) hV_X1_isWithin qr24 1 hqr25 rfl rfl rfl (Nat.le_of_ble_eq_true rfl) dX5_leave_60 ⟨Nat.le_of_ble_eq_true rfl, Nat.le_of_ble_eq_true rfl⟩ ⟨Nat.le_of_ble_eq_true rfl, Nat.le_of_ble_eq_true rfl⟩ (fun v23 u21 H locs hw22 hP hD hS => ?_)
          obtain ⟨w, _⟩ := u21
          obtain ⟨hw22, hO⟩ := hw22
          obtain rfl : v23 = some (.int (nI (wiN ((yQ y).1 k2) ((yQ y).2.1 k2) x9))) := hw22
          have hO : OKP G h0 a (upd (upd (upd (upd (upd (upd (upd (upd F 5 (nI cs)) 6 (nI rg)) 18 (nI ba)) 19 (nI tp)) 20 (nI pc)) 22 (nI on)) 23 5) 26 (nI ht)) (updR (updR (updR (updR R 5 (.ref pq)) 6 (.ref (it j9))) 7 (.ref (a sp))) 8 (.ref (a op))) Z B J K w := hO.to rfl
          refine W.widen (k := 0) (n := 0) (Nat.le_of_ble_eq_true rfl) (Nat.le_of_ble_eq_true rfl) ?_
          refine W.eq (g2 := F0 m 63 ls [.int (nI (wiN ((yQ y).1 k2) ((yQ y).2.1 k2) x9))]) rfl ?_
          have hwi26 := wiN_le (s := (yQ y).1 k2) (e := (yQ y).2.1 k2) (x := x9)
          refine lv_if_ne (tgt := 70) hx hb dX5_leave_63 (by decide) (fun c27 => ?_) (fun c27 => ?_)
          · have n28 : ¬ ((wiN ((yQ y).1 k2) ((yQ y).2.1 k2) x9) = 0) := fun h9 => c27 ((nI_eq (a := (wiN ((yQ y).1 k2) ((yQ y).2.1 k2) x9)) (b := 0) (by omega) (by omega)).mpr h9)
            refine lv_iconst (v := 0) hx hb dX5_leave_70 (by decide) ?_
            refine lv_istore (lv' := [(5, .int 0), (4, .int (nI k2)), (2, .long x), (1, .int (nI x9)), (0, .ref (a 5))]) hx hb dX5_leave_71 hl (by decide) rfl (fun ls hl => ?_)
            refine lv_iload hx hb dX5_leave_73 (lv_at hl 0 rfl) ?_
            refine lv_if_eq (tgt := 100) hx hb dX5_leave_75 (by decide) (fun c29 => ?_) (fun c29 => absurd c29 (by decide))
            refine lv_iinc (v := (nI (k2 + 1))) (lv' := [(4, .int (nI (k2 + 1))), (5, .int 0), (2, .long x), (1, .int (nI x9)), (0, .ref (a 5))]) hx hb dX5_leave_100 hl (k := 1) rfl (nI_1 k2) (by decide) rfl (fun ls hl => ?_)
            refine lv_goto (tgt := 21) hx hb dX5_leave_103 (by decide) ?_
            have hO : OKP G h0 a (upd (upd (upd (upd (upd (upd (upd (upd F 5 (nI cs)) 6 (nI rg)) 18 (nI ba)) 19 (nI tp)) 20 (nI pc)) 22 (nI on)) 23 5) 26 (nI ht)) (updR (updR (updR (updR R 5 (.ref pq)) 6 (.ref (it j9))) 7 (.ref (a sp))) 8 (.ref (a op))) Z B J K w := hO.to rfl
            exact ih_r (k2 + 1) _ _ _ _ (by omega) (by omega) (by omega) hP hD hS hO (lv_sub hl [0, 2, 3, 4] rfl)
          · have n30 : (wiN ((yQ y).1 k2) ((yQ y).2.1 k2) x9) = 0 := (nI_eq (a := (wiN ((yQ y).1 k2) ((yQ y).2.1 k2) x9)) (b := 0) (by omega) (by omega)).mp c27
            have hout := wiN_no (s := (yQ y).1 k2) (e := (yQ y).2.1 k2) (x := x9) ((nI_eq (by have := wiN_le (s := (yQ y).1 k2) (e := (yQ y).2.1 k2) (x := x9); omega) (by omega)).mp (show nI (wiN ((yQ y).1 k2) ((yQ y).2.1 k2) x9) = nI 0 from c27))
            refine lv_iconst (v := 1) hx hb dX5_leave_66 (by decide) ?_
            refine lv_goto (tgt := 71) hx hb dX5_leave_67 (by decide) ?_
            refine lv_istore (lv' := [(5, .int 1), (4, .int (nI k2)), (2, .long x), (1, .int (nI x9)), (0, .ref (a 5))]) hx hb dX5_leave_71 hl (by decide) rfl (fun ls hl => ?_)
            refine lv_iload hx hb dX5_leave_73 (lv_at hl 0 rfl) ?_
            refine lv_if_eq (tgt := 100) hx hb dX5_leave_75 (by decide) (fun c31 => absurd c31 (by decide)) (fun c31 => ?_)
            refine lv_aload_n hx hb dX5_leave_78 rfl (lv_at hl 4 rfl) ?_
            refine c_get (v := .ref (a 2)) (C := RX5) (Tc := TX5) (N := 19) (ci := 4) hx hb hq pin_wsX50 hown hE hP hO 28 (sg_28 G h0 a _ _ _ _ _) rfl 0 (by decide) (hq _ pw_470) (fun _ h9 => h9) rfl dX5_leave_79 ?_
            refine lv_iload hx hb dX5_leave_82 (lv_at hl 1 rfl) ?_
            have hO : OKW G h0 a (upd (upd (upd (upd (upd (upd (upd (upd (upd F 5 (nI cs)) 6 (nI rg)) 18 (nI ba)) 19 (nI tp)) 20 (nI pc)) 22 (nI on)) 23 5) 26 (nI ht)) 6 (nI rg)) (updR (updR (updR (updR R 5 (.ref pq)) 6 (.ref (it j9))) 7 (.ref (a sp))) 8 (.ref (a op))) Z B J K.1 (fun q99 x99 => x99 = rep G a K q99) w := hO.to rfl
            obtain ⟨_, qr35, hqr36⟩ := hO.2.1 13 _ (sg_13 G h0 a _ _ _ _ _)
            refine pc_V0 (G := G) (As := [.int (nI k2)]) (rest := []) hx hb hml hown hq hE hX pX0_al hP hD hS hA hl.1 (Y_caught l G h0 a (upd (upd (upd (upd (upd (upd (upd (upd F 5 (nI cs)) 6 (nI rg)) 18 (nI ba)) 19 (nI tp)) 20 (nI pc)) 22 (nI on)) 23 5) 26 (nI ht)) (updR (updR (updR (updR R 5 (.ref pq)) 6 (.ref (it j9))) 7 (.ref (a sp))) 8 (.ref (a op))) Z B J K.1 (fun q99 x99 => x99 = rep G a K q99) w k2 rg (by omega) (by omega) hO) (gV pw_697 pw_698 pw_699 pw_70 pw_384) hV_X1_caught qr35 1 hqr36 rfl rfl rfl (Nat.le_of_ble_eq_true rfl) dX5_leave_84 ⟨Nat.le_of_ble_eq_true rfl, Nat.le_of_ble_eq_true rfl⟩ ⟨Nat.le_of_ble_eq_true rfl, Nat.le_of_ble_eq_true rfl⟩ (fun v34 u32 H locs hw33 hP hD hS => ?_)
            obtain ⟨w, _⟩ := u32
            obtain ⟨hw33, hO⟩ := hw33
            obtain rfl : v34 = some (.int ((B 23) k2)) := hw33
            have hO : OKP G h0 a (upd (upd (upd (upd (upd (upd (upd (upd F 5 (nI cs)) 6 (nI rg)) 18 (nI ba)) 19 (nI tp)) 20 (nI pc)) 22 (nI on)) 23 5) 26 (nI ht)) (updR (updR (updR (updR R 5 (.ref pq)) 6 (.ref (it j9))) 7 (.ref (a sp))) 8 (.ref (a op))) Z B J K w := hO.to rfl
            refine W.widen (k := 0) (n := 0) (Nat.le_of_ble_eq_true rfl) (Nat.le_of_ble_eq_true rfl) ?_
            refine W.eq (g2 := F0 m 87 ls [.int ((B 23) k2)]) rfl ?_
            rw [hv4]
            rcases hva with hcl | ⟨c7, hc7, hcl⟩
            · rw [hcl]
              refine W.eq (g2 := F0 m 87 ls [.int (-1)]) rfl ?_
              refine lv_iconst (v := (-1)) hx hb dX5_leave_87 (by decide) ?_
              refine lv_icmp_ne (tgt := 100) hx hb dX5_leave_88 (by decide) (fun c37 => absurd c37 (by decide)) (fun c37 => ?_)
              refine lv_aload_n hx hb dX5_leave_91 rfl (lv_at hl 4 rfl) ?_
              refine lv_iload hx hb dX5_leave_92 (lv_at hl 1 rfl) ?_
              refine lv_iload_n hx hb dX5_leave_94 rfl (lv_at hl 3 rfl) ?_
              refine lv_lload_n hx hb dX5_leave_95 rfl (lv_at hl 2 rfl) ?_
              have hsw := MWy.slot hmw hmo (k := k2) ⟨hk2, by omega⟩ hin
              have hsw2 := hsw.2.1 hcl
              have hO : OKP G h0 a (upd (upd (upd (upd (upd (upd (upd (upd (upd (upd F 5 (nI cs)) 6 (nI rg)) 18 (nI ba)) 19 (nI tp)) 20 (nI pc)) 22 (nI on)) 23 5) 26 (nI ht)) 6 (nI rg)) 18 (nI ba)) (updR (updR (updR (updR (updR (updR R 5 (.ref pq)) 6 (.ref (it j9))) 7 (.ref (a sp))) 8 (.ref (a op))) 5 (.ref pq)) 6 (.ref (it j9))) Z B J K w := hO.to rfl
              obtain ⟨_, qr41, hqr42⟩ := hO.2.1 28 _ (sg_28 G h0 a _ _ _ _ _)
              refine pc_V0 (G := G) (As := [.int (nI k2), .int (nI x9), .long x]) (rest := []) hx hb hml hown hq hE hX pX0_al hP hD hS hA hl.1 (Y_landL l G h0 a (upd (upd (upd (upd (upd (upd (upd (upd F 5 (nI cs)) 6 (nI rg)) 18 (nI ba)) 19 (nI tp)) 20 (nI pc)) 22 (nI on)) 23 5) 26 (nI ht)) (updR (updR (updR (updR R 5 (.ref pq)) 6 (.ref (it j9))) 7 (.ref (a sp))) 8 (.ref (a op))) Z B J K w y j9 ba k2 0 (nI x9) x pq dr ml nd nm cp it s9 g rk cs rg hwp hps hrk hpy (by omega) (by omega) (by omega) hcl (by omega) hsj hO) (gV pw_712 pw_713 pw_714 pw_539 pw_700) hV_X5_land qr41 4 hqr42 rfl rfl rfl (Nat.le_of_ble_eq_true rfl) dX5_leave_96 ⟨Nat.le_of_ble_eq_true rfl, Nat.le_of_ble_eq_true rfl⟩ ⟨Nat.le_of_ble_eq_true rfl, Nat.le_of_ble_eq_true rfl⟩ (fun v40 u38 H locs hw39 hP hD hS => ?_)
              obtain ⟨w, _⟩ := u38
              obtain ⟨hw39, hO⟩ := hw39
              obtain rfl : v40 = none := hw39
              have hO : OKP G h0 a (upd (upd (upd (upd (upd (upd (upd (upd (upd F 5 (nI cs)) 6 (nI rg)) 18 (nI ba)) 19 (nI (ba + ysl y j9))) 20 (nI pc)) 21 (nI ((yQ y).2.2.1 k2))) 22 (nI on)) 23 5) 26 (nI ht)) (updR (updR (updR (updR R 5 (.ref pq)) 6 (.ref (it j9))) 7 (.ref (a sp))) 8 (.ref (a op))) Z B (updJ J 29 (vp_updL (vp_updL ((J 29)) (ba + ((yQ y).2.2.2.1 k2)) (nmV (nI x9))) (ba + (((yQ y).2.2.2.1 k2) + 1)) x)) K w := hO.to rfl
              refine W.widen (k := 0) (n := 0) (Nat.le_of_ble_eq_true rfl) (Nat.le_of_ble_eq_true rfl) ?_
              refine W.eq (g2 := F0 m 99 ls []) rfl ?_
              have hz43 : LvQ y it (B 16) (B 19) (B 30) Sh nn (updJ J 29 (vp_updL (vp_updL ((J 29)) (ba + ((yQ y).2.2.2.1 k2)) (nmV (nI x9))) (ba + (((yQ y).2.2.2.1 k2) + 1)) x)) sp ht fl (mT (B 16) (B 30) fl on pc) (ba + ysl y j9) (5 : Int32) (nI ((yQ y).2.2.1 k2)) ba on (it j9) := (LvQ.last (y0 := (nI x9)) hmw hmo hne ⟨hk2, by omega⟩ hin hcl hvo (fun e he => Or.inr (Or.inr (Or.inr ⟨x9, hx9.2, rfl, hwx k2 ⟨hk2, by omega, hcl⟩ hin hout⟩))) h29.1)
              have hz44 : LoE (updJ J 29 (vp_updL (vp_updL ((J 29)) (ba + ((yQ y).2.2.2.1 k2)) (nmV (nI x9))) (ba + (((yQ y).2.2.2.1 k2) + 1)) x)) sp op := (LoE.up hle h29.1 h29.2)
              have hz45 : (ba + ysl y j9) ≤ 32000 ∧ ba ≤ 32000 ∧ on ≤ 100 := (by omega)
              have hO : OKP G h0 a (upd (upd (upd (upd (upd (upd (upd (upd (upd (upd F 5 (nI cs)) 6 (nI rg)) 18 (nI ba)) 19 (nI (ba + ysl y j9))) 20 (nI pc)) 21 (nI ((yQ y).2.2.1 k2))) 22 (nI on)) 23 (5 : Int32)) 24 (F 24)) 26 (nI ht)) (updR (updR (updR (updR R 5 (.ref pq)) 6 (.ref (it j9))) 7 (.ref (a sp))) 8 (.ref (a op))) Z B (updJ J 29 (vp_updL (vp_updL ((J 29)) (ba + ((yQ y).2.2.2.1 k2)) (nmV (nI x9))) (ba + (((yQ y).2.2.2.1 k2) + 1)) x)) K w := hO.to rfl
              exact W.vret hx hb hr (fun t99 ht99 hW99 => ⟨⟨_, (w, ((ba + ysl y j9), (5 : Int32), (nI ((yQ y).2.2.1 k2)), (nI pc), (F 24), (updJ J 29 (vp_updL (vp_updL ((J 29)) (ba + ((yQ y).2.2.2.1 k2)) (nmV (nI x9))) (ba + (((yQ y).2.2.2.1 k2) + 1)) x)), ba, on, (it j9))), rfl, ⟨rfl, hz43, hz44, hz45, hO⟩, by rw [ht99]; exact hP, hD⟩, hS.F ht99⟩) hS.2.2 dX5_leave_99
            · rw [hcl]
              refine W.eq (g2 := F0 m 87 ls [.int (nI c7)]) rfl ?_
              refine lv_iconst (v := (-1)) hx hb dX5_leave_87 (by decide) ?_
              refine lv_icmp_ne (tgt := 100) hx hb dX5_leave_88 (by decide) (fun c46 => ?_) (fun c46 => (nI_m1 (n := c7) (by omega) c46).elim)
              refine lv_iinc (v := (nI (k2 + 1))) (lv' := [(4, .int (nI (k2 + 1))), (5, .int 1), (2, .long x), (1, .int (nI x9)), (0, .ref (a 5))]) hx hb dX5_leave_100 hl (k := 1) rfl (nI_1 k2) (by decide) rfl (fun ls hl => ?_)
              refine lv_goto (tgt := 21) hx hb dX5_leave_103 (by decide) ?_
              have hO : OKP G h0 a (upd (upd (upd (upd (upd (upd (upd (upd F 5 (nI cs)) 6 (nI rg)) 18 (nI ba)) 19 (nI tp)) 20 (nI pc)) 22 (nI on)) 23 5) 26 (nI ht)) (updR (updR (updR (updR R 5 (.ref pq)) 6 (.ref (it j9))) 7 (.ref (a sp))) 8 (.ref (a op))) Z B J K w := hO.to rfl
              exact ih_r (k2 + 1) _ _ _ _ (by omega) (by omega) (by omega) hP hD hS hO (lv_sub hl [0, 2, 3, 4] rfl)
  have hO : OKP G h0 a (upd (upd (upd (upd (upd (upd (upd (upd F 5 (nI cs)) 6 (nI rg)) 18 (nI ba)) 19 (nI tp)) 20 (nI pc)) 22 (nI on)) 23 5) 26 (nI ht)) (updR (updR (updR (updR R 5 (.ref pq)) 6 (.ref (it j9))) 7 (.ref (a sp))) 8 (.ref (a op))) Z B J K w := hO.to rfl
  exact loop_r ((yr1 y j9) + 1) (yr0 y j9) _ _ _ _ (by omega) (by omega) (by omega) hP hD hS hO (lv_sub hl [0, 3, 2, 1] rfl)

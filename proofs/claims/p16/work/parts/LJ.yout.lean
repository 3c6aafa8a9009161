def HoQ (y : TY) (K : PK) (dr nd j pc d : Nat) (r : Int32) : Prop := r = -1 ∨ ∃ k : Nat, k < 10000 ∧ r = nI k ∧ (yr0 y j ≤ k ∧ k < yr1 y j) ∧ inR (yQ y) k pc ∧ ((yQ y).2.2.2.2.1 k = -1 ∨ ∃ c : Nat, c < nd ∧ (yQ y).2.2.2.2.1 k = nI c ∧ fitK (btK K dr) nd d c)
set_option maxHeartbeats 20000000 in
set_option maxRecDepth 100000 in
theorem Y_close (l : Launch) (G : pT) (h0 : Nat) (a : Nat → Nat) (F : Nat → Int32) (R : Nat → Value) (Z : Int64) (B : Nat → Nat → Int32) (J : Nat → Nat → Int64) (K : PK) (w : va_W) (on : Nat) (ba : Nat) (p8 : Nat) (b8 : Nat) (i8 : Nat) (pq : Nat) (dr : Nat) (ml : Nat) (nd : Nat) (nm : Nat) (cp : Nat) (it : Nat → Nat) (s9 : Nat) (g : Nat → Nat → Nat) (rk : Nat → Nat) (cs : Nat) (rg : Nat) (hwp : WPr G K g) (hps : PgT G K g (a 1) pq dr ml nd nm cp it s9) (hon : 2 ≤ on ∧ on ≤ 100) (hf0 : B 30 (3 * (on - 1)) = nI p8) (hf1 : B 30 (3 * (on - 1) + 1) = nI b8) (hf2 : B 30 (3 * (on - 1) + 2) = nI i8) (hi8 : i8 < nm) (hO : OKP G h0 a (upd (upd F 18 (nI ba)) 22 (nI on)) (updR R 5 (.ref pq)) Z B J K w) : PM l G pX0 yX5_close cX5_close 1 none ({ frames := 6, cells := 0, slots := 0, locals := 145 }) [.ref (a 5)] w (fun (v : Option Value) (u : va_W × (Unit)) => v = none ∧ (OKP G h0 a (upd (upd (upd (upd F 18 (nI b8)) 19 (nI ba)) 20 (nI p8)) 22 (nI (on - 1))) (updR (updR R 5 (.ref pq)) 6 (.ref (it i8))) Z B J K u.1)) (fun u => u.1) := by
  intro sz
  refine Met.ofW (cc := cX5_close) (maxL := 1) (ret := none) (by decide) rfl ?_
  intro p e s m args below meth c s₁ B9 hml hv
  obtain ⟨rfl, hsz, hP, hD0, hE, hX⟩ := hv
  have hx := B9.exec
  have hb := B9.bytes
  have hr := B9.returns
  have hts := atoms_spec (ws := Cond.code yX5_close cX5_close 1 none :: pw) B9.pre
  have hq : ∀ w ∈ pw, w.before _ s = true := fun w h => hts w (List.mem_cons_of_mem _ h)
  have hown : s.vm.findClass RX5 = some m.cls := findClass_of_methodNamed B9.named
  have hlocks := B9.notSynchronized
  subst hsz
  have hD := hD0.self (sz := s.heap.size)
  have hA : ∀ q : Nat, s.heap.size ≤ q → va_A w s.heap.size q := fun q h => Or.inr h
  generalize va_A w s.heap.size = A at hD hE hA ⊢
  have hS : va_S A s.heap s.heap [] := va_S.rf
  have hl := lv_entry ([.ref (a 5)]) (n := 1) (Nat.le_of_ble_eq_true rfl)
  rw [lg_entry_eq]
  generalize (lg_sl ([.ref (a 5)]) ++ List.replicate (1 - (lg_sl ([.ref (a 5)])).length) Slot.unset).toArray = ls at hl ⊢
  have hl : lv_has ls 1 [(0, .ref (a 5))] := hl
  have hpg := hps.1
  have hp1 := hpg.1
  have hp2 := hpg.2.1
  have hp3 := hpg.2.2.1
  have hp4 := hpg.2.2.2.1
  have hp5 := hpg.2.2.2.2.1
  have hp6 := hpg.2.2.2.2.2.1
  have hp8 := hpg.2.2.2.2.2.2.2.1
  have hp9 := hpg.2.2.2.2.2.2.2.2
  refine lv_aload_n hx hb dX5_close_0 rfl (lv_at hl 0 rfl) ?_
  refine lv_dup hx hb dX5_close_1 rfl ?_
  refine c_get (v := .int (nI on)) (C := RX5) (Tc := TX5) (N := 19) (ci := 4) hx hb hq pin_wsX50 hown hE hP hO 28 (sg_28 G h0 a _ _ _ _ _) rfl 15 (by decide) (hq _ pw_502) (fun _ h9 => h9) rfl dX5_close_2 ?_
  refine lv_iconst (v := 1) hx hb dX5_close_5 (by decide) ?_
  refine lv_isub hx hb dX5_close_6 ?_
  refine lv_topi (fun x1 e2 => ?_)
  obtain rfl : x1 = nI (on - 1) := e2.trans (nI_subN (a := 1) (b := on) (by omega))
  refine c_put (v := .int (nI (on - 1))) (ty := .int) (C := RX5) (Tc := TX5) (N := 19) (ci := 4) hx hb hq pin_wsX50 tyX5 tyX5_ok nmX5 hown hE hP hD hS hO 28 (sg_28 G h0 a _ _ _ _ _) rfl 15 (by decide) (hq _ pw_502) (fun _ h9 => h9) rfl (by decide +kernel) rfl rfl (Nat.le_of_ble_eq_true rfl) (sf_22 G h0 a _ _ _ _ _ (nI (on - 1))) dX5_close_7 (fun H locs w hP hD hS hO => ?_)
  refine lv_aload_n hx hb dX5_close_10 rfl (lv_at hl 0 rfl) ?_
  refine lv_aload_n hx hb dX5_close_11 rfl (lv_at hl 0 rfl) ?_
  refine c_get (v := .int (nI ba)) (C := RX5) (Tc := TX5) (N := 19) (ci := 4) hx hb hq pin_wsX50 hown hE hP hO 28 (sg_28 G h0 a _ _ _ _ _) rfl 10 (by decide) (hq _ pw_504) (fun _ h9 => h9) rfl dX5_close_12 ?_
  refine c_put (v := .int (nI ba)) (ty := .int) (C := RX5) (Tc := TX5) (N := 19) (ci := 4) hx hb hq pin_wsX50 tyX5 tyX5_ok nmX5 hown hE hP hD hS hO 28 (sg_28 G h0 a _ _ _ _ _) rfl 11 (by decide) (hq _ pw_505) (fun _ h9 => h9) rfl (by decide +kernel) rfl rfl (Nat.le_of_ble_eq_true rfl) (sf_19 G h0 a _ _ _ _ _ (nI ba)) dX5_close_15 (fun H locs w hP hD hS hO => ?_)
  refine lv_aload_n hx hb dX5_close_18 rfl (lv_at hl 0 rfl) ?_
  refine c_get (v := .int (nI (on - 1))) (C := RX5) (Tc := TX5) (N := 19) (ci := 4) hx hb hq pin_wsX50 hown hE hP hO 28 (sg_28 G h0 a _ _ _ _ _) rfl 15 (by decide) (hq _ pw_502) (fun _ h9 => h9) rfl dX5_close_19 ?_
  refine lv_if_lt (tgt := 90) hx hb dX5_close_22 (by decide) (fun c3 => (by have n4 : (on - 1) < 0 := (nI_ltI (a := (on - 1)) (b := 0) (by omega) (by omega)).mp c3; omega)) (fun c3 => ?_)
  refine lv_aload_n hx hb dX5_close_25 rfl (lv_at hl 0 rfl) ?_
  refine c_get (v := .int (nI (on - 1))) (C := RX5) (Tc := TX5) (N := 19) (ci := 4) hx hb hq pin_wsX50 hown hE hP hO 28 (sg_28 G h0 a _ _ _ _ _) rfl 15 (by decide) (hq _ pw_502) (fun _ h9 => h9) rfl dX5_close_26 ?_
  refine lv_bipush (v := 100) hx hb dX5_close_29 (by decide) ?_
  refine lv_icmp_ge (tgt := 90) hx hb dX5_close_31 (by decide) (fun c5 => (by have n6 : 100 ≤ (on - 1) := (nI_leI (a := 100) (b := (on - 1)) (by omega) (by omega)).mp c5; omega)) (fun c5 => ?_)
  refine lv_aload_n hx hb dX5_close_34 rfl (lv_at hl 0 rfl) ?_
  refine lv_aload_n hx hb dX5_close_35 rfl (lv_at hl 0 rfl) ?_
  refine c_get (v := .ref (a 30)) (C := RX5) (Tc := TX5) (N := 19) (ci := 4) hx hb hq pin_wsX50 hown hE hP hO 28 (sg_28 G h0 a _ _ _ _ _) rfl 3 (by decide) (hq _ pw_475) (fun _ h9 => h9) rfl dX5_close_36 ?_
  refine lv_iconst (v := 3) hx hb dX5_close_39 (by decide) ?_
  refine lv_aload_n hx hb dX5_close_40 rfl (lv_at hl 0 rfl) ?_
  refine c_get (v := .int (nI (on - 1))) (C := RX5) (Tc := TX5) (N := 19) (ci := 4) hx hb hq pin_wsX50 hown hE hP hO 28 (sg_28 G h0 a _ _ _ _ _) rfl 15 (by decide) (hq _ pw_502) (fun _ h9 => h9) rfl dX5_close_41 ?_
  refine lv_imul hx hb dX5_close_44 ?_
  refine lv_topi (fun x7 e8 => ?_)
  obtain rfl : x7 = nI (3 * (on - 1)) := e8.trans (nI_mulN (3) ((on - 1)))
  refine c_ldi (f := (B 30)) (n := 300) (t0 := 0) hx hb hE hP hO 33 (sg_33 G h0 a _ _ _ _ _) rfl (vp_in_nI (by omega) (by decide)) dX5_close_45 ?_
  rw [(nI_clamp (show (3 * (on - 1)) < 2 ^ 31 by omega))]
  refine lv_topi (fun x9 e10 => ?_)
  obtain rfl : x9 = nI p8 := e10.trans hf0
  refine c_put (v := .int (nI p8)) (ty := .int) (C := RX5) (Tc := TX5) (N := 19) (ci := 4) hx hb hq pin_wsX50 tyX5 tyX5_ok nmX5 hown hE hP hD hS hO 28 (sg_28 G h0 a _ _ _ _ _) rfl 12 (by decide) (hq _ pw_506) (fun _ h9 => h9) rfl (by decide +kernel) rfl rfl (Nat.le_of_ble_eq_true rfl) (sf_20 G h0 a _ _ _ _ _ (nI p8)) dX5_close_46 (fun H locs w hP hD hS hO => ?_)
  refine lv_aload_n hx hb dX5_close_49 rfl (lv_at hl 0 rfl) ?_
  refine lv_aload_n hx hb dX5_close_50 rfl (lv_at hl 0 rfl) ?_
  refine c_get (v := .ref (a 30)) (C := RX5) (Tc := TX5) (N := 19) (ci := 4) hx hb hq pin_wsX50 hown hE hP hO 28 (sg_28 G h0 a _ _ _ _ _) rfl 3 (by decide) (hq _ pw_475) (fun _ h9 => h9) rfl dX5_close_51 ?_
  refine lv_iconst (v := 3) hx hb dX5_close_54 (by decide) ?_
  refine lv_aload_n hx hb dX5_close_55 rfl (lv_at hl 0 rfl) ?_
  refine c_get (v := .int (nI (on - 1))) (C := RX5) (Tc := TX5) (N := 19) (ci := 4) hx hb hq pin_wsX50 hown hE hP hO 28 (sg_28 G h0 a _ _ _ _ _) rfl 15 (by decide) (hq _ pw_502) (fun _ h9 => h9) rfl dX5_close_56 ?_
  refine lv_imul hx hb dX5_close_59 ?_
  refine lv_topi (fun x11 e12 => ?_)
  obtain rfl : x11 = nI (3 * (on - 1)) := e12.trans (nI_mulN (3) ((on - 1)))
  refine lv_iconst (v := 1) hx hb dX5_close_60 (by decide) ?_
  refine lv_iadd hx hb dX5_close_61 ?_
  refine lv_topi (fun x13 e14 => ?_)
  obtain rfl : x13 = nI ((3 * (on - 1)) + 1) := e14.trans (nI_add ((3 * (on - 1))) (1))
  refine c_ldi (f := (B 30)) (n := 300) (t0 := 0) hx hb hE hP hO 33 (sg_33 G h0 a _ _ _ _ _) rfl (vp_in_nI (by omega) (by decide)) dX5_close_62 ?_
  rw [(nI_clamp (show ((3 * (on - 1)) + 1) < 2 ^ 31 by omega))]
  refine lv_topi (fun x15 e16 => ?_)
  obtain rfl : x15 = nI b8 := e16.trans hf1
  refine c_put (v := .int (nI b8)) (ty := .int) (C := RX5) (Tc := TX5) (N := 19) (ci := 4) hx hb hq pin_wsX50 tyX5 tyX5_ok nmX5 hown hE hP hD hS hO 28 (sg_28 G h0 a _ _ _ _ _) rfl 10 (by decide) (hq _ pw_504) (fun _ h9 => h9) rfl (by decide +kernel) rfl rfl (Nat.le_of_ble_eq_true rfl) (sf_18 G h0 a _ _ _ _ _ (nI b8)) dX5_close_63 (fun H locs w hP hD hS hO => ?_)
  refine lv_aload_n hx hb dX5_close_66 rfl (lv_at hl 0 rfl) ?_
  refine lv_aload_n hx hb dX5_close_67 rfl (lv_at hl 0 rfl) ?_
  refine c_get (v := .ref pq) (C := RX5) (Tc := TX5) (N := 19) (ci := 4) hx hb hq pin_wsX50 hown hE hP hO 28 (sg_28 G h0 a _ _ _ _ _) rfl 8 (by decide) (hq _ pw_486) (fun _ h9 => h9) rfl dX5_close_68 ?_
  refine lv_aload_n hx hb dX5_close_71 rfl (lv_at hl 0 rfl) ?_
  refine c_get (v := .ref (a 30)) (C := RX5) (Tc := TX5) (N := 19) (ci := 4) hx hb hq pin_wsX50 hown hE hP hO 28 (sg_28 G h0 a _ _ _ _ _) rfl 3 (by decide) (hq _ pw_475) (fun _ h9 => h9) rfl dX5_close_72 ?_
  refine lv_iconst (v := 3) hx hb dX5_close_75 (by decide) ?_
  refine lv_aload_n hx hb dX5_close_76 rfl (lv_at hl 0 rfl) ?_
  refine c_get (v := .int (nI (on - 1))) (C := RX5) (Tc := TX5) (N := 19) (ci := 4) hx hb hq pin_wsX50 hown hE hP hO 28 (sg_28 G h0 a _ _ _ _ _) rfl 15 (by decide) (hq _ pw_502) (fun _ h9 => h9) rfl dX5_close_77 ?_
  refine lv_imul hx hb dX5_close_80 ?_
  refine lv_topi (fun x17 e18 => ?_)
  obtain rfl : x17 = nI (3 * (on - 1)) := e18.trans (nI_mulN (3) ((on - 1)))
  refine lv_iconst (v := 2) hx hb dX5_close_81 (by decide) ?_
  refine lv_iadd hx hb dX5_close_82 ?_
  refine lv_topi (fun x19 e20 => ?_)
  obtain rfl : x19 = nI ((3 * (on - 1)) + 2) := e20.trans (nI_add ((3 * (on - 1))) (2))
  refine c_ldi (f := (B 30)) (n := 300) (t0 := 0) hx hb hE hP hO 33 (sg_33 G h0 a _ _ _ _ _) rfl (vp_in_nI (by omega) (by decide)) dX5_close_83 ?_
  rw [(nI_clamp (show ((3 * (on - 1)) + 2) < 2 ^ 31 by omega))]
  refine lv_topi (fun x21 e22 => ?_)
  obtain rfl : x21 = nI i8 := e22.trans hf2
  have hO : OKP G h0 a (upd (upd (upd (upd F 18 (nI b8)) 19 (nI ba)) 20 (nI p8)) 22 (nI (on - 1))) (updR R 5 (.ref pq)) Z B J K w := hO.to rfl
  obtain ⟨qr26, hqr27⟩ := p_recv hO (by rw [hp1]; decide) (rep_7 hp1)
  refine pc_V0 (G := G) (As := [.int (nI i8)]) (rest := [.ref (a 5)]) hx hb hml hown hq hE hX pX0_al hP hD hS hA hl.1 (Y_method l G h0 a (upd (upd (upd (upd F 18 (nI b8)) 19 (nI ba)) 20 (nI p8)) 22 (nI (on - 1))) (updR R 5 (.ref pq)) Z B J K w pq dr ml nd i8 nm cp it g hps.1 hps.2.2.1 hi8 hO) (gV pw_528 pw_529 pw_530 pw_106 pw_518) hV_X9_method qr26 6 hqr27 rfl rfl rfl (Nat.le_of_ble_eq_true rfl) dX5_close_84 ⟨Nat.le_of_ble_eq_true rfl, Nat.le_of_ble_eq_true rfl⟩ ⟨Nat.le_of_ble_eq_true rfl, Nat.le_of_ble_eq_true rfl⟩ (fun v25 u23 H locs hw24 hP hD hS => ?_)
  obtain ⟨w, _⟩ := u23
  obtain ⟨hw24, hO⟩ := hw24
  obtain rfl : v25 = some (.ref (it i8)) := hw24
  have hO : OKP G h0 a (upd (upd (upd (upd F 18 (nI b8)) 19 (nI ba)) 20 (nI p8)) 22 (nI (on - 1))) (updR R 5 (.ref pq)) Z B J K w := hO.to rfl
  refine W.widen (k := 0) (n := 0) (Nat.le_of_ble_eq_true rfl) (Nat.le_of_ble_eq_true rfl) ?_
  refine W.eq (g2 := F0 m 87 ls [.ref (it i8), .ref (a 5)]) rfl ?_
  refine c_put (v := .ref (it i8)) (ty := (.object "JinjaTongue$Method")) (C := RX5) (Tc := TX5) (N := 19) (ci := 4) hx hb hq pin_wsX50 tyX5 tyX5_ok nmX5 hown hE hP hD hS hO 28 (sg_28 G h0 a _ _ _ _ _) rfl 9 (by decide) (hq _ pw_503) (fun _ h9 => h9) rfl (by decide +kernel) rfl rfl (Nat.le_of_ble_eq_true rfl) (sr_6 G h0 a _ _ _ _ _ (.ref (it i8))) dX5_close_87 (fun H locs w hP hD hS hO => ?_)
  have hO : OKP G h0 a (upd (upd (upd (upd F 18 (nI b8)) 19 (nI ba)) 20 (nI p8)) 22 (nI (on - 1))) (updR (updR R 5 (.ref pq)) 6 (.ref (it i8))) Z B J K w := hO.to rfl
  exact W.vret hx hb hr (fun t99 ht99 hW99 => ⟨⟨_, (w, ()), rfl, ⟨rfl, hO⟩, by rw [ht99]; exact hP, hD⟩, hS.F ht99⟩) hS.2.2 dX5_close_90
set_option maxHeartbeats 40000000 in
set_option maxRecDepth 100000 in
theorem Y_giveBack (l : Launch) (G : pT) (h0 : Nat) (a : Nat → Nat) (F : Nat → Int32) (R : Nat → Value) (Z : Int64) (B : Nat → Nat → Int32) (J : Nat → Nat → Int64) (K : PK) (w : va_W) (y : TY) (Sh : Nat → Nat) (nn : Nat → Nat) (on : Nat) (j9 : Nat) (ba : Nat) (pc : Nat) (tp : Nat) (sp : Nat) (op : Nat) (ht : Nat) (fl : Nat) (pq : Nat) (dr : Nat) (ml : Nat) (nd : Nat) (nm : Nat) (cp : Nat) (it : Nat → Nat) (s9 : Nat) (g : Nat → Nat → Nat) (rk : Nat → Nat) (cs : Nat) (rg : Nat) (x : Int64) (hsp : (sp = 34 ∧ op = 35) ∨ (sp = 35 ∧ op = 34)) (hmw : MWy y (B 19) Sh nn (J sp) ht (B 30) (J 29) on j9 ba pc) (hmo : MOy y (B 16) (B 17) (B 18) (B 19) j9) (hne : ¬ B 16 pc = 0) (hle : LoE J sp op) (htp : tp ≤ 32000) (hwp : WPr G K g) (hps : PgT G K g (a 1) pq dr ml nd nm cp it s9) (hrk : RkO K rk) (hpy : PrY y K B dr nd nm it cs rg) (hcs9 : cs ≤ 10000) (hrv : yrt y j9 = 63 ∨ VT (yfi y) Sh (yrt y j9) x) (hO : OKP G h0 a (upd (upd (upd (upd (upd (upd (upd (upd F 5 (nI cs)) 6 (nI rg)) 18 (nI ba)) 19 (nI tp)) 20 (nI pc)) 22 (nI on)) 23 5) 26 (nI ht)) (updR (updR (updR (updR R 5 (.ref pq)) 6 (.ref (it j9))) 7 (.ref (a sp))) 8 (.ref (a op))) Z B J K w) : PM l G pX0 yX5_giveBack cX5_giveBack 4 none ({ frames := 7, cells := 0, slots := 0, locals := 165 }) [.ref (a 5), .long x] w (fun (v : Option Value) (u : va_W × (Nat × Int32 × Int32 × Int32 × Int32 × (Nat → Nat → Int64) × Nat × Nat × Nat)) => v = none ∧ (LvQ y it (B 16) (B 19) (B 30) Sh nn u.2.2.2.2.2.2.1 sp ht fl (mT (B 16) (B 30) fl on pc) u.2.1 u.2.2.1 u.2.2.2.1 u.2.2.2.2.2.2.2.1 u.2.2.2.2.2.2.2.2.1 u.2.2.2.2.2.2.2.2.2) ∧ (LoE u.2.2.2.2.2.2.1 sp op) ∧ (u.2.1 ≤ 32000 ∧ u.2.2.2.2.2.2.2.1 ≤ 32000 ∧ u.2.2.2.2.2.2.2.2.1 ≤ 100) ∧ (OKP G h0 a (upd (upd (upd (upd (upd (upd (upd (upd (upd (upd F 5 (nI cs)) 6 (nI rg)) 18 (nI u.2.2.2.2.2.2.2.1)) 19 (nI u.2.1)) 20 u.2.2.2.2.1) 21 u.2.2.2.1) 22 (nI u.2.2.2.2.2.2.2.2.1)) 23 u.2.2.1) 24 u.2.2.2.2.2.1) 26 (nI ht)) (updR (updR (updR (updR R 5 (.ref pq)) 6 (.ref u.2.2.2.2.2.2.2.2.2)) 7 (.ref (a sp))) 8 (.ref (a op))) Z B u.2.2.2.2.2.2.1 K u.1)) (fun u => u.1) := by
  intro sz
  refine Met.ofW (cc := cX5_giveBack) (maxL := 4) (ret := none) (by decide) rfl ?_
  intro p e s m args below meth c s₁ B9 hml hv
  obtain ⟨rfl, hsz, hP, hD0, hE, hX⟩ := hv
  have hx := B9.exec
  have hb := B9.bytes
  have hr := B9.returns
  have hts := atoms_spec (ws := Cond.code yX5_giveBack cX5_giveBack 4 none :: pw) B9.pre
  have hq : ∀ w ∈ pw, w.before _ s = true := fun w h => hts w (List.mem_cons_of_mem _ h)
  have hown : s.vm.findClass RX5 = some m.cls := findClass_of_methodNamed B9.named
  have hlocks := B9.notSynchronized
  subst hsz
  have hD := hD0.self (sz := s.heap.size)
  have hA : ∀ q : Nat, s.heap.size ≤ q → va_A w s.heap.size q := fun q h => Or.inr h
  generalize va_A w s.heap.size = A at hD hE hA ⊢
  have hS : va_S A s.heap s.heap [] := va_S.rf
  have hl := lv_entry ([.ref (a 5), .long x]) (n := 4) (Nat.le_of_ble_eq_true rfl)
  rw [lg_entry_eq]
  generalize (lg_sl ([.ref (a 5), .long x]) ++ List.replicate (4 - (lg_sl ([.ref (a 5), .long x])).length) Slot.unset).toArray = ls at hl ⊢
  have hl : lv_has ls 4 [(0, .ref (a 5)), (1, .long x)] := hl
  have hpg := hps.1
  have hp1 := hpg.1
  have hp2 := hpg.2.1
  have hp3 := hpg.2.2.1
  have hp4 := hpg.2.2.2.1
  have hp5 := hpg.2.2.2.2.1
  have hp6 := hpg.2.2.2.2.2.1
  have hp8 := hpg.2.2.2.2.2.2.2.1
  have hp9 := hpg.2.2.2.2.2.2.2.2
  have h29 : ¬ sp = 29 ∧ ¬ op = 29 := by omega
  obtain ⟨hb1, hb2, hb3, hb4, hb5, hb6⟩ := hmw.1.1
  have hnmE := hpy.1.1
  have hnm9 := hps.2.2.1.2.2.1
  have hmj := hpy.2.1 j9 (by omega)
  have hsj : ysl y j9 ≤ 319 := by have z9 := (hmo.2.2.2.1 pc hb4 hb5 hmw.1.2.1.1.1).2.2.1; have e9 : ysl y j9 = (yM y).2.1 j9 := rfl; omega
  have hbj : yhi y j9 ≤ 10000 := hmo.2.1.2
  have hb5y : pc < yhi y j9 := hb5
  have hrj := hmj.2.2.2.2.2.2.2.2.1
  refine lv_aload_n hx hb dX5_giveBack_0 rfl (lv_at hl 0 rfl) ?_
  refine c_get (v := .ref (it j9)) (C := RX5) (Tc := TX5) (N := 19) (ci := 4) hx hb hq pin_wsX50 hown hE hP hO 28 (sg_28 G h0 a _ _ _ _ _) rfl 9 (by decide) (hq _ pw_503) (fun _ h9 => h9) rfl dX5_giveBack_1 ?_
  refine lv_ifnull hx hb dX5_giveBack_4 ?_
  refine lv_aload_n hx hb dX5_giveBack_7 rfl (lv_at hl 0 rfl) ?_
  refine c_get (v := .ref (it j9)) (C := RX5) (Tc := TX5) (N := 19) (ci := 4) hx hb hq pin_wsX50 hown hE hP hO 28 (sg_28 G h0 a _ _ _ _ _) rfl 9 (by decide) (hq _ pw_503) (fun _ h9 => h9) rfl dX5_giveBack_8 ?_
  refine p_get (v := .int (nI (yrt y j9))) (C := RX6) (Tc := TX6) (N := 12) (ci := 12) hx hb hq pin_wsX60 hown hE hP hO (by rw [(hps.2.2.1.T (show j9 < nm by omega))]; decide) (rep_3 (hps.2.2.1.T (show j9 < nm by omega))) rfl 7 (by decide) (hq _ pw_702) (fun _ h9 => h9) (congrArg (fun z => some (Value.int z)) hmj.2.2.2.1) dX5_giveBack_11 ?_
  refine lv_bipush (v := 63) hx hb dX5_giveBack_14 (by decide) ?_
  refine lv_icmp_eq (tgt := 23) hx hb dX5_giveBack_16 (by decide) (fun c1 => ?_) (fun c1 => ?_)
  · have n2 : (yrt y j9) = 63 := (nI_eq (a := (yrt y j9)) (b := 63) (by omega) (by omega)).mp c1
    refine lv_iconst (v := 0) hx hb dX5_giveBack_23 (by decide) ?_
    refine lv_istore_n (lv' := [(3, .int 0), (0, .ref (a 5)), (1, .long x)]) hx hb dX5_giveBack_24 rfl hl (by decide) rfl (fun ls hl => ?_)
    refine lv_aload_n hx hb dX5_giveBack_25 rfl (lv_at hl 1 rfl) ?_
    refine c_get (v := .int (nI on)) (C := RX5) (Tc := TX5) (N := 19) (ci := 4) hx hb hq pin_wsX50 hown hE hP hO 28 (sg_28 G h0 a _ _ _ _ _) rfl 15 (by decide) (hq _ pw_502) (fun _ h9 => h9) rfl dX5_giveBack_26 ?_
    refine lv_iconst (v := 1) hx hb dX5_giveBack_29 (by decide) ?_
    refine lv_icmp_gt (tgt := 45) hx hb dX5_giveBack_30 (by decide) (fun c3 => ?_) (fun c3 => ?_)
    · have n4 : 1 < on := (nI_ltI (a := 1) (b := on) (by omega) (by omega)).mp c3
      obtain ⟨n8, hn8⟩ : ∃ n8, on = n8 + 2 := ⟨on - 2, by omega⟩
      obtain ⟨i8, p8, b8, hg1, hg2, hg3, hg4, hg5, hg6, hg7, hg8, hg9⟩ := MWy.back (O := B 16) (L := B 17) (R := B 18) (hn8 ▸ hmw) (fun i hi => (hpy.2.1 i (by omega)).1)
      have hg10 : yhi y i8 ≤ 10000 := (hpy.2.1 i8 (by omega)).1.2.1.2
      refine lv_aload_n hx hb dX5_giveBack_45 rfl (lv_at hl 1 rfl) ?_
      have hO : OKP G h0 a (upd (upd (upd (upd (upd (upd (upd (upd (upd (upd F 5 (nI cs)) 6 (nI rg)) 18 (nI ba)) 19 (nI tp)) 20 (nI pc)) 22 (nI on)) 23 5) 26 (nI ht)) 18 (nI ba)) 22 (nI on)) (updR (updR (updR (updR (updR R 5 (.ref pq)) 6 (.ref (it j9))) 7 (.ref (a sp))) 8 (.ref (a op))) 5 (.ref pq)) Z B J K w := hO.to rfl
      obtain ⟨_, qr8, hqr9⟩ := hO.2.1 28 _ (sg_28 G h0 a _ _ _ _ _)
      refine pc_V0 (G := G) (As := []) (rest := []) hx hb hml hown hq hE hX pX0_al hP hD hS hA hl.1 (Y_close l G h0 a (upd (upd (upd (upd (upd (upd (upd (upd F 5 (nI cs)) 6 (nI rg)) 18 (nI ba)) 19 (nI tp)) 20 (nI pc)) 22 (nI on)) 23 5) 26 (nI ht)) (updR (updR (updR (updR R 5 (.ref pq)) 6 (.ref (it j9))) 7 (.ref (a sp))) 8 (.ref (a op))) Z B J K w on ba p8 b8 i8 pq dr ml nd nm cp it s9 g rk cs rg hwp hps (by omega) (by rw [show on - 1 = n8 + 1 by omega]; exact hg1) (by rw [show on - 1 = n8 + 1 by omega]; exact hg2) (by rw [show on - 1 = n8 + 1 by omega]; exact hg3) (by omega) hO) (gV pw_703 pw_704 pw_705 pw_539 pw_701) hV_X5_close qr8 4 hqr9 rfl rfl rfl (Nat.le_of_ble_eq_true rfl) dX5_giveBack_46 ⟨Nat.le_of_ble_eq_true rfl, Nat.le_of_ble_eq_true rfl⟩ ⟨Nat.le_of_ble_eq_true rfl, Nat.le_of_ble_eq_true rfl⟩ (fun v7 u5 H locs hw6 hP hD hS => ?_)
      obtain ⟨w, _⟩ := u5
      obtain ⟨hw6, hO⟩ := hw6
      obtain rfl : v7 = none := hw6
      have hO : OKP G h0 a (upd (upd (upd (upd (upd (upd (upd (upd F 5 (nI cs)) 6 (nI rg)) 18 (nI b8)) 19 (nI ba)) 20 (nI p8)) 22 (nI (on - 1))) 23 5) 26 (nI ht)) (updR (updR (updR (updR R 5 (.ref pq)) 6 (.ref (it i8))) 7 (.ref (a sp))) 8 (.ref (a op))) Z B J K w := hO.to rfl
      refine W.widen (k := 0) (n := 0) (Nat.le_of_ble_eq_true rfl) (Nat.le_of_ble_eq_true rfl) ?_
      refine W.eq (g2 := F0 m 49 ls []) rfl ?_
      refine lv_aload_n hx hb dX5_giveBack_49 rfl (lv_at hl 1 rfl) ?_
      refine lv_aload_n hx hb dX5_giveBack_50 rfl (lv_at hl 1 rfl) ?_
      refine c_get (v := .int (nI p8)) (C := RX5) (Tc := TX5) (N := 19) (ci := 4) hx hb hq pin_wsX50 hown hE hP hO 28 (sg_28 G h0 a _ _ _ _ _) rfl 12 (by decide) (hq _ pw_506) (fun _ h9 => h9) rfl dX5_giveBack_51 ?_
      refine lv_iconst (v := 1) hx hb dX5_giveBack_54 (by decide) ?_
      refine lv_iadd hx hb dX5_giveBack_55 ?_
      refine lv_topi (fun x10 e11 => ?_)
      obtain rfl : x10 = nI (p8 + 1) := e11.trans (nI_add (p8) (1))
      refine c_put (v := .int (nI (p8 + 1))) (ty := .int) (C := RX5) (Tc := TX5) (N := 19) (ci := 4) hx hb hq pin_wsX50 tyX5 tyX5_ok nmX5 hown hE hP hD hS hO 28 (sg_28 G h0 a _ _ _ _ _) rfl 13 (by decide) (hq _ pw_566) (fun _ h9 => h9) rfl (by decide +kernel) rfl rfl (Nat.le_of_ble_eq_true rfl) (sf_21 G h0 a _ _ _ _ _ (nI (p8 + 1))) dX5_giveBack_56 (fun H locs w hP hD hS hO => ?_)
      refine lv_iload_n hx hb dX5_giveBack_59 rfl (lv_at hl 0 rfl) ?_
      refine lv_if_eq (tgt := 68) hx hb dX5_giveBack_60 (by decide) (fun c12 => ?_) (fun c12 => absurd c12 (by decide))
      have hz13 : LvQ y it (B 16) (B 19) (B 30) Sh nn J sp ht fl (mT (B 16) (B 30) fl on pc) ba (5 : Int32) (nI (p8 + 1)) b8 (on - 1) (it i8) := (LvQ.back0 hg1 (by omega) (hg8 (by omega)) hn8)
      have hz14 : LoE J sp op := hle
      have hz15 : ba ≤ 32000 ∧ b8 ≤ 32000 ∧ (on - 1) ≤ 100 := (by omega)
      have hO : OKP G h0 a (upd (upd (upd (upd (upd (upd (upd (upd (upd (upd F 5 (nI cs)) 6 (nI rg)) 18 (nI b8)) 19 (nI ba)) 20 (nI p8)) 21 (nI (p8 + 1))) 22 (nI (on - 1))) 23 (5 : Int32)) 24 (F 24)) 26 (nI ht)) (updR (updR (updR (updR R 5 (.ref pq)) 6 (.ref (it i8))) 7 (.ref (a sp))) 8 (.ref (a op))) Z B J K w := hO.to rfl
      exact W.vret hx hb hr (fun t99 ht99 hW99 => ⟨⟨_, (w, (ba, (5 : Int32), (nI (p8 + 1)), (nI p8), (F 24), J, b8, (on - 1), (it i8))), rfl, ⟨rfl, hz13, hz14, hz15, hO⟩, by rw [ht99]; exact hP, hD⟩, hS.F ht99⟩) hS.2.2 dX5_giveBack_68
    · have n16 : ¬ (1 < on) := fun h9 => c3 ((nI_ltI (a := 1) (b := on) (by omega) (by omega)).mpr h9)
      refine lv_aload_n hx hb dX5_giveBack_33 rfl (lv_at hl 1 rfl) ?_
      refine lv_lload_n hx hb dX5_giveBack_34 rfl (lv_at hl 2 rfl) ?_
      refine lv_l2i hx hb dX5_giveBack_35 rfl ?_
      refine lv_topi (fun x17 e18 => ?_)
      refine c_put (v := .int x17) (ty := .int) (C := RX5) (Tc := TX5) (N := 19) (ci := 4) hx hb hq pin_wsX50 tyX5 tyX5_ok nmX5 hown hE hP hD hS hO 28 (sg_28 G h0 a _ _ _ _ _) rfl 17 (by decide) (hq _ pw_501) (fun _ h9 => h9) rfl (by decide +kernel) rfl rfl (Nat.le_of_ble_eq_true rfl) (sf_24 G h0 a _ _ _ _ _ x17) dX5_giveBack_36 (fun H locs w hP hD hS hO => ?_)
      refine lv_aload_n hx hb dX5_giveBack_39 rfl (lv_at hl 1 rfl) ?_
      refine lv_iconst (v := 0) hx hb dX5_giveBack_40 (by decide) ?_
      refine c_put (v := .int 0) (ty := .int) (C := RX5) (Tc := TX5) (N := 19) (ci := 4) hx hb hq pin_wsX50 tyX5 tyX5_ok nmX5 hown hE hP hD hS hO 28 (sg_28 G h0 a _ _ _ _ _) rfl 16 (by decide) (hq _ pw_513) (fun _ h9 => h9) rfl (by decide +kernel) rfl rfl (Nat.le_of_ble_eq_true rfl) (sf_23 G h0 a _ _ _ _ _ 0) dX5_giveBack_41 (fun H locs w hP hD hS hO => ?_)
      have hz19 : LvQ y it (B 16) (B 19) (B 30) Sh nn J sp ht fl (mT (B 16) (B 30) fl on pc) tp (0 : Int32) (F 21) ba on (it j9) := (Or.inl (by decide))
      have hz20 : LoE J sp op := hle
      have hz21 : tp ≤ 32000 ∧ ba ≤ 32000 ∧ on ≤ 100 := (by omega)
      have hO : OKP G h0 a (upd (upd (upd (upd (upd (upd (upd (upd (upd (upd F 5 (nI cs)) 6 (nI rg)) 18 (nI ba)) 19 (nI tp)) 20 (nI pc)) 21 (F 21)) 22 (nI on)) 23 (0 : Int32)) 24 x17) 26 (nI ht)) (updR (updR (updR (updR R 5 (.ref pq)) 6 (.ref (it j9))) 7 (.ref (a sp))) 8 (.ref (a op))) Z B J K w := hO.to rfl
      exact W.vret hx hb hr (fun t99 ht99 hW99 => ⟨⟨_, (w, (tp, (0 : Int32), (F 21), (nI pc), x17, J, ba, on, (it j9))), rfl, ⟨rfl, hz19, hz20, hz21, hO⟩, by rw [ht99]; exact hP, hD⟩, hS.F ht99⟩) hS.2.2 dX5_giveBack_44
  · have n22 : ¬ ((yrt y j9) = 63) := fun h9 => c1 ((nI_eq (a := (yrt y j9)) (b := 63) (by omega) (by omega)).mpr h9)
    refine lv_iconst (v := 1) hx hb dX5_giveBack_19 (by decide) ?_
    refine lv_goto (tgt := 24) hx hb dX5_giveBack_20 (by decide) ?_
    refine lv_istore_n (lv' := [(3, .int 1), (0, .ref (a 5)), (1, .long x)]) hx hb dX5_giveBack_24 rfl hl (by decide) rfl (fun ls hl => ?_)
    refine lv_aload_n hx hb dX5_giveBack_25 rfl (lv_at hl 1 rfl) ?_
    refine c_get (v := .int (nI on)) (C := RX5) (Tc := TX5) (N := 19) (ci := 4) hx hb hq pin_wsX50 hown hE hP hO 28 (sg_28 G h0 a _ _ _ _ _) rfl 15 (by decide) (hq _ pw_502) (fun _ h9 => h9) rfl dX5_giveBack_26 ?_
    refine lv_iconst (v := 1) hx hb dX5_giveBack_29 (by decide) ?_
    refine lv_icmp_gt (tgt := 45) hx hb dX5_giveBack_30 (by decide) (fun c23 => ?_) (fun c23 => ?_)
    · have n24 : 1 < on := (nI_ltI (a := 1) (b := on) (by omega) (by omega)).mp c23
      obtain ⟨n8, hn8⟩ : ∃ n8, on = n8 + 2 := ⟨on - 2, by omega⟩
      obtain ⟨i8, p8, b8, hg1, hg2, hg3, hg4, hg5, hg6, hg7, hg8, hg9⟩ := MWy.back (O := B 16) (L := B 17) (R := B 18) (hn8 ▸ hmw) (fun i hi => (hpy.2.1 i (by omega)).1)
      have hg10 : yhi y i8 ≤ 10000 := (hpy.2.1 i8 (by omega)).1.2.1.2
      refine lv_aload_n hx hb dX5_giveBack_45 rfl (lv_at hl 1 rfl) ?_
      have hO : OKP G h0 a (upd (upd (upd (upd (upd (upd (upd (upd (upd (upd F 5 (nI cs)) 6 (nI rg)) 18 (nI ba)) 19 (nI tp)) 20 (nI pc)) 22 (nI on)) 23 5) 26 (nI ht)) 18 (nI ba)) 22 (nI on)) (updR (updR (updR (updR (updR R 5 (.ref pq)) 6 (.ref (it j9))) 7 (.ref (a sp))) 8 (.ref (a op))) 5 (.ref pq)) Z B J K w := hO.to rfl
      obtain ⟨_, qr28, hqr29⟩ := hO.2.1 28 _ (sg_28 G h0 a _ _ _ _ _)
      refine pc_V0 (G := G) (As := []) (rest := []) hx hb hml hown hq hE hX pX0_al hP hD hS hA hl.1 (Y_close l G h0 a (upd (upd (upd (upd (upd (upd (upd (upd F 5 (nI cs)) 6 (nI rg)) 18 (nI ba)) 19 (nI tp)) 20 (nI pc)) 22 (nI on)) 23 5) 26 (nI ht)) (updR (updR (updR (updR R 5 (.ref pq)) 6 (.ref (it j9))) 7 (.ref (a sp))) 8 (.ref (a op))) Z B J K w on ba p8 b8 i8 pq dr ml nd nm cp it s9 g rk cs rg hwp hps (by omega) (by rw [show on - 1 = n8 + 1 by omega]; exact hg1) (by rw [show on - 1 = n8 + 1 by omega]; exact hg2) (by rw [show on - 1 = n8 + 1 by omega]; exact hg3) (by omega) hO) (gV pw_703 pw_704 pw_705 pw_539 pw_701) hV_X5_close qr28 4 hqr29 rfl rfl rfl (Nat.le_of_ble_eq_true rfl) dX5_giveBack_46 ⟨Nat.le_of_ble_eq_true rfl, Nat.le_of_ble_eq_true rfl⟩ ⟨Nat.le_of_ble_eq_true rfl, Nat.le_of_ble_eq_true rfl⟩ (fun v27 u25 H locs hw26 hP hD hS => ?_)
      obtain ⟨w, _⟩ := u25
      obtain ⟨hw26, hO⟩ := hw26
      obtain rfl : v27 = none := hw26
      have hO : OKP G h0 a (upd (upd (upd (upd (upd (upd (upd (upd F 5 (nI cs)) 6 (nI rg)) 18 (nI b8)) 19 (nI ba)) 20 (nI p8)) 22 (nI (on - 1))) 23 5) 26 (nI ht)) (updR (updR (updR (updR R 5 (.ref pq)) 6 (.ref (it i8))) 7 (.ref (a sp))) 8 (.ref (a op))) Z B J K w := hO.to rfl
      refine W.widen (k := 0) (n := 0) (Nat.le_of_ble_eq_true rfl) (Nat.le_of_ble_eq_true rfl) ?_
      refine W.eq (g2 := F0 m 49 ls []) rfl ?_
      refine lv_aload_n hx hb dX5_giveBack_49 rfl (lv_at hl 1 rfl) ?_
      refine lv_aload_n hx hb dX5_giveBack_50 rfl (lv_at hl 1 rfl) ?_
      refine c_get (v := .int (nI p8)) (C := RX5) (Tc := TX5) (N := 19) (ci := 4) hx hb hq pin_wsX50 hown hE hP hO 28 (sg_28 G h0 a _ _ _ _ _) rfl 12 (by decide) (hq _ pw_506) (fun _ h9 => h9) rfl dX5_giveBack_51 ?_
      refine lv_iconst (v := 1) hx hb dX5_giveBack_54 (by decide) ?_
      refine lv_iadd hx hb dX5_giveBack_55 ?_
      refine lv_topi (fun x30 e31 => ?_)
      obtain rfl : x30 = nI (p8 + 1) := e31.trans (nI_add (p8) (1))
      refine c_put (v := .int (nI (p8 + 1))) (ty := .int) (C := RX5) (Tc := TX5) (N := 19) (ci := 4) hx hb hq pin_wsX50 tyX5 tyX5_ok nmX5 hown hE hP hD hS hO 28 (sg_28 G h0 a _ _ _ _ _) rfl 13 (by decide) (hq _ pw_566) (fun _ h9 => h9) rfl (by decide +kernel) rfl rfl (Nat.le_of_ble_eq_true rfl) (sf_21 G h0 a _ _ _ _ _ (nI (p8 + 1))) dX5_giveBack_56 (fun H locs w hP hD hS hO => ?_)
      refine lv_iload_n hx hb dX5_giveBack_59 rfl (lv_at hl 0 rfl) ?_
      refine lv_if_eq (tgt := 68) hx hb dX5_giveBack_60 (by decide) (fun c32 => absurd c32 (by decide)) (fun c32 => ?_)
      refine lv_aload_n hx hb dX5_giveBack_63 rfl (lv_at hl 1 rfl) ?_
      refine lv_lload_n hx hb dX5_giveBack_64 rfl (lv_at hl 2 rfl) ?_
      have hO : OKW G h0 a (upd (upd (upd (upd (upd (upd (upd (upd (upd (upd F 5 (nI cs)) 6 (nI rg)) 18 (nI b8)) 19 (nI ba)) 20 (nI p8)) 21 (nI (p8 + 1))) 22 (nI (on - 1))) 23 5) 26 (nI ht)) 19 (nI ba)) (updR (updR (updR (updR R 5 (.ref pq)) 6 (.ref (it i8))) 7 (.ref (a sp))) 8 (.ref (a op))) Z B J K.1 (fun q99 x99 => x99 = rep G a K q99) w := hO.to rfl
      obtain ⟨_, qr36, hqr37⟩ := hO.2.1 28 _ (sg_28 G h0 a _ _ _ _ _)
      refine pc_V0 (G := G) (As := [.long x]) (rest := []) hx hb hml hown hq hE hX pX0_al hP hD hS hA hl.1 (Y_push l G h0 a (upd (upd (upd (upd (upd (upd (upd (upd (upd F 5 (nI cs)) 6 (nI rg)) 18 (nI b8)) 19 (nI ba)) 20 (nI p8)) 21 (nI (p8 + 1))) 22 (nI (on - 1))) 23 5) 26 (nI ht)) (updR (updR (updR (updR R 5 (.ref pq)) 6 (.ref (it i8))) 7 (.ref (a sp))) 8 (.ref (a op))) Z B J K.1 (fun q99 x99 => x99 = rep G a K q99) w x ba (by omega) hO) (gV pw_549 pw_550 pw_551 pw_539 pw_535) hV_X5_push qr36 4 hqr37 rfl rfl rfl (Nat.le_of_ble_eq_true rfl) dX5_giveBack_65 ⟨Nat.le_of_ble_eq_true rfl, Nat.le_of_ble_eq_true rfl⟩ ⟨Nat.le_of_ble_eq_true rfl, Nat.le_of_ble_eq_true rfl⟩ (fun v35 u33 H locs hw34 hP hD hS => ?_)
      obtain ⟨w, _⟩ := u33
      obtain ⟨hw34, hO⟩ := hw34
      obtain rfl : v35 = none := hw34
      have hO : OKP G h0 a (upd (upd (upd (upd (upd (upd (upd (upd (upd F 5 (nI cs)) 6 (nI rg)) 18 (nI b8)) 19 (nI (ba + 1))) 20 (nI p8)) 21 (nI (p8 + 1))) 22 (nI (on - 1))) 23 5) 26 (nI ht)) (updR (updR (updR (updR R 5 (.ref pq)) 6 (.ref (it i8))) 7 (.ref (a sp))) 8 (.ref (a op))) Z B (updJ J 29 (vp_updL ((J 29)) ba x)) K w := hO.to rfl
      refine W.widen (k := 0) (n := 0) (Nat.le_of_ble_eq_true rfl) (Nat.le_of_ble_eq_true rfl) ?_
      refine W.eq (g2 := F0 m 68 ls []) rfl ?_
      have hz38 : LvQ y it (B 16) (B 19) (B 30) Sh nn (updJ J 29 (vp_updL ((J 29)) ba x)) sp ht fl (mT (B 16) (B 30) fl on pc) (ba + 1) (5 : Int32) (nI (p8 + 1)) b8 (on - 1) (it i8) := (LvQ.back1 hg1 (by omega) (hg9 (by omega) x (hrv.resolve_left (by omega))) hn8 h29.1)
      have hz39 : LoE (updJ J 29 (vp_updL ((J 29)) ba x)) sp op := (LoE.up hle h29.1 h29.2)
      have hz40 : (ba + 1) ≤ 32000 ∧ b8 ≤ 32000 ∧ (on - 1) ≤ 100 := (by omega)
      have hO : OKP G h0 a (upd (upd (upd (upd (upd (upd (upd (upd (upd (upd F 5 (nI cs)) 6 (nI rg)) 18 (nI b8)) 19 (nI (ba + 1))) 20 (nI p8)) 21 (nI (p8 + 1))) 22 (nI (on - 1))) 23 (5 : Int32)) 24 (F 24)) 26 (nI ht)) (updR (updR (updR (updR R 5 (.ref pq)) 6 (.ref (it i8))) 7 (.ref (a sp))) 8 (.ref (a op))) Z B (updJ J 29 (vp_updL ((J 29)) ba x)) K w := hO.to rfl
      exact W.vret hx hb hr (fun t99 ht99 hW99 => ⟨⟨_, (w, ((ba + 1), (5 : Int32), (nI (p8 + 1)), (nI p8), (F 24), (updJ J 29 (vp_updL ((J 29)) ba x)), b8, (on - 1), (it i8))), rfl, ⟨rfl, hz38, hz39, hz40, hO⟩, by rw [ht99]; exact hP, hD⟩, hS.F ht99⟩) hS.2.2 dX5_giveBack_68
    · have n41 : ¬ (1 < on) := fun h9 => c23 ((nI_ltI (a := 1) (b := on) (by omega) (by omega)).mpr h9)
      refine lv_aload_n hx hb dX5_giveBack_33 rfl (lv_at hl 1 rfl) ?_
      refine lv_lload_n hx hb dX5_giveBack_34 rfl (lv_at hl 2 rfl) ?_
      refine lv_l2i hx hb dX5_giveBack_35 rfl ?_
      refine lv_topi (fun x42 e43 => ?_)
      refine c_put (v := .int x42) (ty := .int) (C := RX5) (Tc := TX5) (N := 19) (ci := 4) hx hb hq pin_wsX50 tyX5 tyX5_ok nmX5 hown hE hP hD hS hO 28 (sg_28 G h0 a _ _ _ _ _) rfl 17 (by decide) (hq _ pw_501) (fun _ h9 => h9) rfl (by decide +kernel) rfl rfl (Nat.le_of_ble_eq_true rfl) (sf_24 G h0 a _ _ _ _ _ x42) dX5_giveBack_36 (fun H locs w hP hD hS hO => ?_)
      refine lv_aload_n hx hb dX5_giveBack_39 rfl (lv_at hl 1 rfl) ?_
      refine lv_iconst (v := 0) hx hb dX5_giveBack_40 (by decide) ?_
      refine c_put (v := .int 0) (ty := .int) (C := RX5) (Tc := TX5) (N := 19) (ci := 4) hx hb hq pin_wsX50 tyX5 tyX5_ok nmX5 hown hE hP hD hS hO 28 (sg_28 G h0 a _ _ _ _ _) rfl 16 (by decide) (hq _ pw_513) (fun _ h9 => h9) rfl (by decide +kernel) rfl rfl (Nat.le_of_ble_eq_true rfl) (sf_23 G h0 a _ _ _ _ _ 0) dX5_giveBack_41 (fun H locs w hP hD hS hO => ?_)
      have hz44 : LvQ y it (B 16) (B 19) (B 30) Sh nn J sp ht fl (mT (B 16) (B 30) fl on pc) tp (0 : Int32) (F 21) ba on (it j9) := (Or.inl (by decide))
      have hz45 : LoE J sp op := hle
      have hz46 : tp ≤ 32000 ∧ ba ≤ 32000 ∧ on ≤ 100 := (by omega)
      have hO : OKP G h0 a (upd (upd (upd (upd (upd (upd (upd (upd (upd (upd F 5 (nI cs)) 6 (nI rg)) 18 (nI ba)) 19 (nI tp)) 20 (nI pc)) 21 (F 21)) 22 (nI on)) 23 (0 : Int32)) 24 x42) 26 (nI ht)) (updR (updR (updR (updR R 5 (.ref pq)) 6 (.ref (it j9))) 7 (.ref (a sp))) 8 (.ref (a op))) Z B J K w := hO.to rfl
      exact W.vret hx hb hr (fun t99 ht99 hW99 => ⟨⟨_, (w, (tp, (0 : Int32), (F 21), (nI pc), x42, J, ba, on, (it j9))), rfl, ⟨rfl, hz44, hz45, hz46, hO⟩, by rw [ht99]; exact hP, hD⟩, hS.F ht99⟩) hS.2.2 dX5_giveBack_44
set_option maxHeartbeats 20000000 in
set_option maxRecDepth 100000 in
theorem Y_landL (l : Launch) (G : pT) (h0 : Nat) (a : Nat → Nat) (F : Nat → Int32) (R : Nat → Value) (Z : Int64) (B : Nat → Nat → Int32) (J : Nat → Nat → Int64) (K : PK) (w : va_W) (y : TY) (j9 : Nat) (ba : Nat) (k9 : Nat) (c9 : Nat) (x : Int32) (v9 : Int64) (pq : Nat) (dr : Nat) (ml : Nat) (nd : Nat) (nm : Nat) (cp : Nat) (it : Nat → Nat) (s9 : Nat) (g : Nat → Nat → Nat) (rk : Nat → Nat) (cs : Nat) (rg : Nat) (hwp : WPr G K g) (hps : PgT G K g (a 1) pq dr ml nd nm cp it s9) (hrk : RkO K rk) (hpy : PrY y K B dr nd nm it cs rg) (hcs9 : cs ≤ 10000) (hk9 : k9 < rg ∧ j9 < nm ∧ ba ≤ 31680 ∧ rg ≤ 625) (hsl : (yQ y).2.2.2.1 k9 + 1 ≤ 319) (hcl : (yQ y).2.2.2.2.1 k9 = -1) (hc9 : c9 < 60) (hs9 : ysl y j9 ≤ 319) (hO : OKP G h0 a (upd (upd F 6 (nI rg)) 18 (nI ba)) (updR (updR R 5 (.ref pq)) 6 (.ref (it j9))) Z B J K w) : PM l G pX0 yX5_land cX5_land 6 none ({ frames := 3, cells := 0, slots := 0, locals := 84 }) [.ref (a 5), .int (nI k9), .int x, .long v9] w (fun (v : Option Value) (u : va_W × (Unit)) => v = none ∧ (OKP G h0 a (upd (upd (upd (upd F 6 (nI rg)) 18 (nI ba)) 19 (nI (ba + ysl y j9))) 21 (nI ((yQ y).2.2.1 k9))) (updR (updR R 5 (.ref pq)) 6 (.ref (it j9))) Z B (updJ J 29 (vp_updL (vp_updL (J 29) (ba + ((yQ y).2.2.2.1 k9)) (nmV x)) (ba + (((yQ y).2.2.2.1 k9) + 1)) v9)) K u.1)) (fun u => u.1) := by
  intro sz
  refine Met.ofW (cc := cX5_land) (maxL := 6) (ret := none) (by decide) rfl ?_
  intro p e s m args below meth c s₁ B9 hml hv
  obtain ⟨rfl, hsz, hP, hD0, hE, hX⟩ := hv
  have hx := B9.exec
  have hb := B9.bytes
  have hr := B9.returns
  have hts := atoms_spec (ws := Cond.code yX5_land cX5_land 6 none :: pw) B9.pre
  have hq : ∀ w ∈ pw, w.before _ s = true := fun w h => hts w (List.mem_cons_of_mem _ h)
  have hown : s.vm.findClass RX5 = some m.cls := findClass_of_methodNamed B9.named
  have hlocks := B9.notSynchronized
  subst hsz
  have hD := hD0.self (sz := s.heap.size)
  have hA : ∀ q : Nat, s.heap.size ≤ q → va_A w s.heap.size q := fun q h => Or.inr h
  generalize va_A w s.heap.size = A at hD hE hA ⊢
  have hS : va_S A s.heap s.heap [] := va_S.rf
  have hl := lv_entry ([.ref (a 5), .int (nI k9), .int x, .long v9]) (n := 6) (Nat.le_of_ble_eq_true rfl)
  rw [lg_entry_eq]
  generalize (lg_sl ([.ref (a 5), .int (nI k9), .int x, .long v9]) ++ List.replicate (6 - (lg_sl ([.ref (a 5), .int (nI k9), .int x, .long v9])).length) Slot.unset).toArray = ls at hl ⊢
  have hl : lv_has ls 6 [(0, .ref (a 5)), (1, .int (nI k9)), (2, .int x), (3, .long v9)] := hl
  have hpg := hps.1
  have hp1 := hpg.1
  have hp2 := hpg.2.1
  have hp3 := hpg.2.2.1
  have hp4 := hpg.2.2.2.1
  have hp5 := hpg.2.2.2.2.1
  have hp6 := hpg.2.2.2.2.2.1
  have hp8 := hpg.2.2.2.2.2.2.2.1
  have hp9 := hpg.2.2.2.2.2.2.2.2
  obtain ⟨hv1, hv2, hv3, hv4, hv5, hv6, hv7, hv8, hv9, _⟩ := hpy.2.2.1 k9 hk9.1
  refine lv_aload_n hx hb dX5_land_0 rfl (lv_at hl 0 rfl) ?_
  refine lv_aload_n hx hb dX5_land_1 rfl (lv_at hl 0 rfl) ?_
  refine c_get (v := .int (nI ba)) (C := RX5) (Tc := TX5) (N := 19) (ci := 4) hx hb hq pin_wsX50 hown hE hP hO 28 (sg_28 G h0 a _ _ _ _ _) rfl 10 (by decide) (hq _ pw_504) (fun _ h9 => h9) rfl dX5_land_2 ?_
  refine lv_aload_n hx hb dX5_land_5 rfl (lv_at hl 0 rfl) ?_
  refine c_get (v := .ref (it j9)) (C := RX5) (Tc := TX5) (N := 19) (ci := 4) hx hb hq pin_wsX50 hown hE hP hO 28 (sg_28 G h0 a _ _ _ _ _) rfl 9 (by decide) (hq _ pw_503) (fun _ h9 => h9) rfl dX5_land_6 ?_
  refine p_get (v := .int (nI (ysl y j9))) (C := RX6) (Tc := TX6) (N := 12) (ci := 12) hx hb hq pin_wsX60 hown hE hP hO (by rw [(hps.2.2.1.T hk9.2.1)]; decide) (rep_3 (hps.2.2.1.T hk9.2.1)) rfl 9 (by decide) (hq _ pw_519) (fun _ h9 => h9) (congrArg (fun z => some (Value.int z)) (hpy.2.1 j9 hk9.2.1).2.2.2.2.2.1) dX5_land_9 ?_
  refine lv_iadd hx hb dX5_land_12 ?_
  refine lv_topi (fun x1 e2 => ?_)
  obtain rfl : x1 = nI (ba + (ysl y j9)) := e2.trans (nI_add (ba) ((ysl y j9)))
  refine c_put (v := .int (nI (ba + (ysl y j9)))) (ty := .int) (C := RX5) (Tc := TX5) (N := 19) (ci := 4) hx hb hq pin_wsX50 tyX5 tyX5_ok nmX5 hown hE hP hD hS hO 28 (sg_28 G h0 a _ _ _ _ _) rfl 11 (by decide) (hq _ pw_505) (fun _ h9 => h9) rfl (by decide +kernel) rfl rfl (Nat.le_of_ble_eq_true rfl) (sf_19 G h0 a _ _ _ _ _ (nI (ba + (ysl y j9)))) dX5_land_13 (fun H locs w hP hD hS hO => ?_)
  refine lv_aload_n hx hb dX5_land_16 rfl (lv_at hl 0 rfl) ?_
  refine lv_aload_n hx hb dX5_land_17 rfl (lv_at hl 0 rfl) ?_
  refine c_get (v := .ref (a 2)) (C := RX5) (Tc := TX5) (N := 19) (ci := 4) hx hb hq pin_wsX50 hown hE hP hO 28 (sg_28 G h0 a _ _ _ _ _) rfl 0 (by decide) (hq _ pw_470) (fun _ h9 => h9) rfl dX5_land_18 ?_
  refine lv_iload_n hx hb dX5_land_21 rfl (lv_at hl 1 rfl) ?_
  have hO : OKW G h0 a (upd (upd (upd (upd F 6 (nI rg)) 18 (nI ba)) 19 (nI (ba + (ysl y j9)))) 6 (nI rg)) (updR (updR R 5 (.ref pq)) 6 (.ref (it j9))) Z B J K.1 (fun q99 x99 => x99 = rep G a K q99) w := hO.to rfl
  obtain ⟨_, qr6, hqr7⟩ := hO.2.1 13 _ (sg_13 G h0 a _ _ _ _ _)
  refine pc_V0 (G := G) (As := [.int (nI k9)]) (rest := [.ref (a 5)]) hx hb hml hown hq hE hX pX0_al hP hD hS hA hl.1 (Y_handler l G h0 a (upd (upd (upd F 6 (nI rg)) 18 (nI ba)) 19 (nI (ba + (ysl y j9)))) (updR (updR R 5 (.ref pq)) 6 (.ref (it j9))) Z B J K.1 (fun q99 x99 => x99 = rep G a K q99) w k9 rg (by omega) (by omega) hO) (gV pw_691 pw_692 pw_693 pw_70 pw_385) hV_X1_handler qr6 1 hqr7 rfl rfl rfl (Nat.le_of_ble_eq_true rfl) dX5_land_22 ⟨Nat.le_of_ble_eq_true rfl, Nat.le_of_ble_eq_true rfl⟩ ⟨Nat.le_of_ble_eq_true rfl, Nat.le_of_ble_eq_true rfl⟩ (fun v5 u3 H locs hw4 hP hD hS => ?_)
  obtain ⟨w, _⟩ := u3
  obtain ⟨hw4, hO⟩ := hw4
  obtain rfl : v5 = some (.int ((B 22) k9)) := hw4
  have hO : OKP G h0 a (upd (upd (upd F 6 (nI rg)) 18 (nI ba)) 19 (nI (ba + (ysl y j9)))) (updR (updR R 5 (.ref pq)) 6 (.ref (it j9))) Z B J K w := hO.to rfl
  refine W.widen (k := 0) (n := 0) (Nat.le_of_ble_eq_true rfl) (Nat.le_of_ble_eq_true rfl) ?_
  refine W.eq (g2 := F0 m 25 ls [.int ((B 22) k9), .ref (a 5)]) rfl ?_
  rw [hv3]
  refine c_put (v := .int (nI ((yQ y).2.2.1 k9))) (ty := .int) (C := RX5) (Tc := TX5) (N := 19) (ci := 4) hx hb hq pin_wsX50 tyX5 tyX5_ok nmX5 hown hE hP hD hS hO 28 (sg_28 G h0 a _ _ _ _ _) rfl 13 (by decide) (hq _ pw_566) (fun _ h9 => h9) rfl (by decide +kernel) rfl rfl (Nat.le_of_ble_eq_true rfl) (sf_21 G h0 a _ _ _ _ _ (nI ((yQ y).2.2.1 k9))) dX5_land_25 (fun H locs w hP hD hS hO => ?_)
  refine lv_aload_n hx hb dX5_land_28 rfl (lv_at hl 0 rfl) ?_
  refine c_get (v := .ref (a 2)) (C := RX5) (Tc := TX5) (N := 19) (ci := 4) hx hb hq pin_wsX50 hown hE hP hO 28 (sg_28 G h0 a _ _ _ _ _) rfl 0 (by decide) (hq _ pw_470) (fun _ h9 => h9) rfl dX5_land_29 ?_
  refine lv_iload_n hx hb dX5_land_32 rfl (lv_at hl 1 rfl) ?_
  have hO : OKW G h0 a (upd (upd (upd (upd (upd F 6 (nI rg)) 18 (nI ba)) 19 (nI (ba + (ysl y j9)))) 21 (nI ((yQ y).2.2.1 k9))) 6 (nI rg)) (updR (updR R 5 (.ref pq)) 6 (.ref (it j9))) Z B J K.1 (fun q99 x99 => x99 = rep G a K q99) w := hO.to rfl
  obtain ⟨_, qr11, hqr12⟩ := hO.2.1 13 _ (sg_13 G h0 a _ _ _ _ _)
  refine pc_V0 (G := G) (As := [.int (nI k9)]) (rest := []) hx hb hml hown hq hE hX pX0_al hP hD hS hA hl.1 (Y_slot l G h0 a (upd (upd (upd (upd F 6 (nI rg)) 18 (nI ba)) 19 (nI (ba + (ysl y j9)))) 21 (nI ((yQ y).2.2.1 k9))) (updR (updR R 5 (.ref pq)) 6 (.ref (it j9))) Z B J K.1 (fun q99 x99 => x99 = rep G a K q99) w k9 rg (by omega) (by omega) hO) (gV pw_694 pw_695 pw_696 pw_70 pw_386) hV_X1_slot qr11 1 hqr12 rfl rfl rfl (Nat.le_of_ble_eq_true rfl) dX5_land_33 ⟨Nat.le_of_ble_eq_true rfl, Nat.le_of_ble_eq_true rfl⟩ ⟨Nat.le_of_ble_eq_true rfl, Nat.le_of_ble_eq_true rfl⟩ (fun v10 u8 H locs hw9 hP hD hS => ?_)
  obtain ⟨w, _⟩ := u8
  obtain ⟨hw9, hO⟩ := hw9
  obtain rfl : v10 = some (.int ((B 24) k9)) := hw9
  have hO : OKP G h0 a (upd (upd (upd (upd F 6 (nI rg)) 18 (nI ba)) 19 (nI (ba + (ysl y j9)))) 21 (nI ((yQ y).2.2.1 k9))) (updR (updR R 5 (.ref pq)) 6 (.ref (it j9))) Z B J K w := hO.to rfl
  refine W.widen (k := 0) (n := 0) (Nat.le_of_ble_eq_true rfl) (Nat.le_of_ble_eq_true rfl) ?_
  refine W.eq (g2 := F0 m 36 ls [.int ((B 24) k9)]) rfl ?_
  rw [hv5]
  refine lv_istore (lv' := [(5, .int (nI ((yQ y).2.2.2.1 k9))), (0, .ref (a 5)), (1, .int (nI k9)), (2, .int x), (3, .long v9)]) hx hb dX5_land_36 hl (by decide) rfl (fun ls hl => ?_)
  refine lv_aload_n hx hb dX5_land_38 rfl (lv_at hl 1 rfl) ?_
  refine c_get (v := .ref (a 2)) (C := RX5) (Tc := TX5) (N := 19) (ci := 4) hx hb hq pin_wsX50 hown hE hP hO 28 (sg_28 G h0 a _ _ _ _ _) rfl 0 (by decide) (hq _ pw_470) (fun _ h9 => h9) rfl dX5_land_39 ?_
  refine lv_iload_n hx hb dX5_land_42 rfl (lv_at hl 2 rfl) ?_
  have hO : OKW G h0 a (upd (upd (upd (upd (upd F 6 (nI rg)) 18 (nI ba)) 19 (nI (ba + (ysl y j9)))) 21 (nI ((yQ y).2.2.1 k9))) 6 (nI rg)) (updR (updR R 5 (.ref pq)) 6 (.ref (it j9))) Z B J K.1 (fun q99 x99 => x99 = rep G a K q99) w := hO.to rfl
  obtain ⟨_, qr16, hqr17⟩ := hO.2.1 13 _ (sg_13 G h0 a _ _ _ _ _)
  refine pc_V0 (G := G) (As := [.int (nI k9)]) (rest := []) hx hb hml hown hq hE hX pX0_al hP hD hS hA hl.1 (Y_caught l G h0 a (upd (upd (upd (upd F 6 (nI rg)) 18 (nI ba)) 19 (nI (ba + (ysl y j9)))) 21 (nI ((yQ y).2.2.1 k9))) (updR (updR R 5 (.ref pq)) 6 (.ref (it j9))) Z B J K.1 (fun q99 x99 => x99 = rep G a K q99) w k9 rg (by omega) (by omega) hO) (gV pw_697 pw_698 pw_699 pw_70 pw_384) hV_X1_caught qr16 1 hqr17 rfl rfl rfl (Nat.le_of_ble_eq_true rfl) dX5_land_43 ⟨Nat.le_of_ble_eq_true rfl, Nat.le_of_ble_eq_true rfl⟩ ⟨Nat.le_of_ble_eq_true rfl, Nat.le_of_ble_eq_true rfl⟩ (fun v15 u13 H locs hw14 hP hD hS => ?_)
  obtain ⟨w, _⟩ := u13
  obtain ⟨hw14, hO⟩ := hw14
  obtain rfl : v15 = some (.int ((B 23) k9)) := hw14
  have hO : OKP G h0 a (upd (upd (upd (upd F 6 (nI rg)) 18 (nI ba)) 19 (nI (ba + (ysl y j9)))) 21 (nI ((yQ y).2.2.1 k9))) (updR (updR R 5 (.ref pq)) 6 (.ref (it j9))) Z B J K w := hO.to rfl
  refine W.widen (k := 0) (n := 0) (Nat.le_of_ble_eq_true rfl) (Nat.le_of_ble_eq_true rfl) ?_
  refine W.eq (g2 := F0 m 46 ls [.int ((B 23) k9)]) rfl ?_
  rw [hv4, hcl]
  refine lv_iconst (v := (-1)) hx hb dX5_land_46 (by decide) ?_
  refine lv_icmp_ne (tgt := 74) hx hb dX5_land_47 (by decide) (fun c18 => absurd c18 (by decide)) (fun c18 => ?_)
  refine lv_aload_n hx hb dX5_land_50 rfl (lv_at hl 1 rfl) ?_
  refine lv_iload hx hb dX5_land_51 (lv_at hl 0 rfl) ?_
  refine lv_iload_n hx hb dX5_land_53 rfl (lv_at hl 3 rfl) ?_
  refine lv_i2l hx hb dX5_land_54 rfl ?_
  refine lv_topl (fun x19 e20 => ?_)
  refine lv_ldc2 (v := 4294967295) hx hb hown (hq _ pw_603) dX5_land_55 ?_
  refine lv_land hx hb dX5_land_58 ?_
  refine lv_topl (fun x21 e22 => ?_)
  rw [show x21 = nmV x from e22.trans (by rw [e20]; rfl)]
  have hO : OKW G h0 a (upd (upd (upd (upd (upd F 6 (nI rg)) 18 (nI ba)) 19 (nI (ba + (ysl y j9)))) 21 (nI ((yQ y).2.2.1 k9))) 18 (nI ba)) (updR (updR R 5 (.ref pq)) 6 (.ref (it j9))) Z B J K.1 (fun q99 x99 => x99 = rep G a K q99) w := hO.to rfl
  obtain ⟨_, qr26, hqr27⟩ := hO.2.1 28 _ (sg_28 G h0 a _ _ _ _ _)
  refine pc_V0 (G := G) (As := [.int (nI ((yQ y).2.2.2.1 k9)), .long (nmV x)]) (rest := []) hx hb hml hown hq hE hX pX0_al hP hD hS hA hl.1 (Y_setSlot l G h0 a (upd (upd (upd (upd F 6 (nI rg)) 18 (nI ba)) 19 (nI (ba + (ysl y j9)))) 21 (nI ((yQ y).2.2.1 k9))) (updR (updR R 5 (.ref pq)) 6 (.ref (it j9))) Z B J K.1 (fun q99 x99 => x99 = rep G a K q99) w ba ((yQ y).2.2.2.1 k9) (nmV x) (by omega) hO) (gV pw_625 pw_626 pw_627 pw_539 pw_596) hV_X5_setSlot qr26 4 hqr27 rfl rfl rfl (Nat.le_of_ble_eq_true rfl) dX5_land_59 ⟨Nat.le_of_ble_eq_true rfl, Nat.le_of_ble_eq_true rfl⟩ ⟨Nat.le_of_ble_eq_true rfl, Nat.le_of_ble_eq_true rfl⟩ (fun v25 u23 H locs hw24 hP hD hS => ?_)
  obtain ⟨w, _⟩ := u23
  obtain ⟨hw24, hO⟩ := hw24
  obtain rfl : v25 = none := hw24
  have hO : OKP G h0 a (upd (upd (upd (upd F 6 (nI rg)) 18 (nI ba)) 19 (nI (ba + (ysl y j9)))) 21 (nI ((yQ y).2.2.1 k9))) (updR (updR R 5 (.ref pq)) 6 (.ref (it j9))) Z B (updJ J 29 (vp_updL ((J 29)) (ba + ((yQ y).2.2.2.1 k9)) (nmV x))) K w := hO.to rfl
  refine W.widen (k := 0) (n := 0) (Nat.le_of_ble_eq_true rfl) (Nat.le_of_ble_eq_true rfl) ?_
  refine W.eq (g2 := F0 m 62 ls []) rfl ?_
  refine lv_aload_n hx hb dX5_land_62 rfl (lv_at hl 1 rfl) ?_
  refine lv_iload hx hb dX5_land_63 (lv_at hl 0 rfl) ?_
  refine lv_iconst (v := 1) hx hb dX5_land_65 (by decide) ?_
  refine lv_iadd hx hb dX5_land_66 ?_
  refine lv_topi (fun x28 e29 => ?_)
  obtain rfl : x28 = nI (((yQ y).2.2.2.1 k9) + 1) := e29.trans (nI_add (((yQ y).2.2.2.1 k9)) (1))
  refine lv_lload_n hx hb dX5_land_67 rfl (lv_at hl 4 rfl) ?_
  have hO : OKW G h0 a (upd (upd (upd (upd (upd F 6 (nI rg)) 18 (nI ba)) 19 (nI (ba + (ysl y j9)))) 21 (nI ((yQ y).2.2.1 k9))) 18 (nI ba)) (updR (updR R 5 (.ref pq)) 6 (.ref (it j9))) Z B (updJ J 29 (vp_updL ((J 29)) (ba + ((yQ y).2.2.2.1 k9)) (nmV x))) K.1 (fun q99 x99 => x99 = rep G a K q99) w := hO.to rfl
  obtain ⟨_, qr33, hqr34⟩ := hO.2.1 28 _ (sg_28 G h0 a _ _ _ _ _)
  refine pc_V0 (G := G) (As := [.int (nI (((yQ y).2.2.2.1 k9) + 1)), .long v9]) (rest := []) hx hb hml hown hq hE hX pX0_al hP hD hS hA hl.1 (Y_setSlot l G h0 a (upd (upd (upd (upd F 6 (nI rg)) 18 (nI ba)) 19 (nI (ba + (ysl y j9)))) 21 (nI ((yQ y).2.2.1 k9))) (updR (updR R 5 (.ref pq)) 6 (.ref (it j9))) Z B (updJ J 29 (vp_updL ((J 29)) (ba + ((yQ y).2.2.2.1 k9)) (nmV x))) K.1 (fun q99 x99 => x99 = rep G a K q99) w ba (((yQ y).2.2.2.1 k9) + 1) v9 (by omega) hO) (gV pw_625 pw_626 pw_627 pw_539 pw_596) hV_X5_setSlot qr33 4 hqr34 rfl rfl rfl (Nat.le_of_ble_eq_true rfl) dX5_land_68 ⟨Nat.le_of_ble_eq_true rfl, Nat.le_of_ble_eq_true rfl⟩ ⟨Nat.le_of_ble_eq_true rfl, Nat.le_of_ble_eq_true rfl⟩ (fun v32 u30 H locs hw31 hP hD hS => ?_)
  obtain ⟨w, _⟩ := u30
  obtain ⟨hw31, hO⟩ := hw31
  obtain rfl : v32 = none := hw31
  have hO : OKP G h0 a (upd (upd (upd (upd F 6 (nI rg)) 18 (nI ba)) 19 (nI (ba + (ysl y j9)))) 21 (nI ((yQ y).2.2.1 k9))) (updR (updR R 5 (.ref pq)) 6 (.ref (it j9))) Z B (updJ J 29 (vp_updL ((vp_updL ((J 29)) (ba + ((yQ y).2.2.2.1 k9)) (nmV x))) (ba + (((yQ y).2.2.2.1 k9) + 1)) v9)) K w := hO.to rfl
  refine W.widen (k := 0) (n := 0) (Nat.le_of_ble_eq_true rfl) (Nat.le_of_ble_eq_true rfl) ?_
  refine W.eq (g2 := F0 m 71 ls []) rfl ?_
  refine lv_goto (tgt := 81) hx hb dX5_land_71 (by decide) ?_
  have hO : OKP G h0 a (upd (upd (upd (upd F 6 (nI rg)) 18 (nI ba)) 19 (nI (ba + ysl y j9))) 21 (nI ((yQ y).2.2.1 k9))) (updR (updR R 5 (.ref pq)) 6 (.ref (it j9))) Z B (updJ J 29 (vp_updL (vp_updL (J 29) (ba + ((yQ y).2.2.2.1 k9)) (nmV x)) (ba + (((yQ y).2.2.2.1 k9) + 1)) v9)) K w := hO.to rfl
  exact W.vret hx hb hr (fun t99 ht99 hW99 => ⟨⟨_, (w, ()), rfl, ⟨rfl, hO⟩, by rw [ht99]; exact hP, hD⟩, hS.F ht99⟩) hS.2.2 dX5_land_81
set_option maxHeartbeats 20000000 in
set_option maxRecDepth 100000 in
theorem Y_landC (l : Launch) (G : pT) (h0 : Nat) (a : Nat → Nat) (F : Nat → Int32) (R : Nat → Value) (Z : Int64) (B : Nat → Nat → Int32) (J : Nat → Nat → Int64) (K : PK) (w : va_W) (y : TY) (j9 : Nat) (ba : Nat) (k9 : Nat) (c9 : Nat) (x : Int32) (v9 : Int64) (pq : Nat) (dr : Nat) (ml : Nat) (nd : Nat) (nm : Nat) (cp : Nat) (it : Nat → Nat) (s9 : Nat) (g : Nat → Nat → Nat) (rk : Nat → Nat) (cs : Nat) (rg : Nat) (hwp : WPr G K g) (hps : PgT G K g (a 1) pq dr ml nd nm cp it s9) (hrk : RkO K rk) (hpy : PrY y K B dr nd nm it cs rg) (hcs9 : cs ≤ 10000) (hk9 : k9 < rg ∧ j9 < nm ∧ ba ≤ 31680 ∧ rg ≤ 625) (hsl : (yQ y).2.2.2.1 k9 + 1 ≤ 319) (hcl : (yQ y).2.2.2.2.1 k9 = nI c9) (hc9 : c9 < 60) (hs9 : ysl y j9 ≤ 319) (hO : OKP G h0 a (upd (upd F 6 (nI rg)) 18 (nI ba)) (updR (updR R 5 (.ref pq)) 6 (.ref (it j9))) Z B J K w) : PM l G pX0 yX5_land cX5_land 6 none ({ frames := 3, cells := 0, slots := 0, locals := 84 }) [.ref (a 5), .int (nI k9), .int x, .long v9] w (fun (v : Option Value) (u : va_W × (Unit)) => v = none ∧ (OKP G h0 a (upd (upd (upd (upd F 6 (nI rg)) 18 (nI ba)) 19 (nI (ba + ysl y j9))) 21 (nI ((yQ y).2.2.1 k9))) (updR (updR R 5 (.ref pq)) 6 (.ref (it j9))) Z B (updJ J 29 (vp_updL (J 29) (ba + ((yQ y).2.2.2.1 k9)) v9)) K u.1)) (fun u => u.1) := by
  intro sz
  refine Met.ofW (cc := cX5_land) (maxL := 6) (ret := none) (by decide) rfl ?_
  intro p e s m args below meth c s₁ B9 hml hv
  obtain ⟨rfl, hsz, hP, hD0, hE, hX⟩ := hv
  have hx := B9.exec
  have hb := B9.bytes
  have hr := B9.returns
  have hts := atoms_spec (ws := Cond.code yX5_land cX5_land 6 none :: pw) B9.pre
  have hq : ∀ w ∈ pw, w.before _ s = true := fun w h => hts w (List.mem_cons_of_mem _ h)
  have hown : s.vm.findClass RX5 = some m.cls := findClass_of_methodNamed B9.named
  have hlocks := B9.notSynchronized
  subst hsz
  have hD := hD0.self (sz := s.heap.size)
  have hA : ∀ q : Nat, s.heap.size ≤ q → va_A w s.heap.size q := fun q h => Or.inr h
  generalize va_A w s.heap.size = A at hD hE hA ⊢
  have hS : va_S A s.heap s.heap [] := va_S.rf
  have hl := lv_entry ([.ref (a 5), .int (nI k9), .int x, .long v9]) (n := 6) (Nat.le_of_ble_eq_true rfl)
  rw [lg_entry_eq]
  generalize (lg_sl ([.ref (a 5), .int (nI k9), .int x, .long v9]) ++ List.replicate (6 - (lg_sl ([.ref (a 5), .int (nI k9), .int x, .long v9])).length) Slot.unset).toArray = ls at hl ⊢
  have hl : lv_has ls 6 [(0, .ref (a 5)), (1, .int (nI k9)), (2, .int x), (3, .long v9)] := hl
  have hpg := hps.1
  have hp1 := hpg.1
  have hp2 := hpg.2.1
  have hp3 := hpg.2.2.1
  have hp4 := hpg.2.2.2.1
  have hp5 := hpg.2.2.2.2.1
  have hp6 := hpg.2.2.2.2.2.1
  have hp8 := hpg.2.2.2.2.2.2.2.1
  have hp9 := hpg.2.2.2.2.2.2.2.2
  obtain ⟨hv1, hv2, hv3, hv4, hv5, hv6, hv7, hv8, hv9, _⟩ := hpy.2.2.1 k9 hk9.1
  refine lv_aload_n hx hb dX5_land_0 rfl (lv_at hl 0 rfl) ?_
  refine lv_aload_n hx hb dX5_land_1 rfl (lv_at hl 0 rfl) ?_
  refine c_get (v := .int (nI ba)) (C := RX5) (Tc := TX5) (N := 19) (ci := 4) hx hb hq pin_wsX50 hown hE hP hO 28 (sg_28 G h0 a _ _ _ _ _) rfl 10 (by decide) (hq _ pw_504) (fun _ h9 => h9) rfl dX5_land_2 ?_
  refine lv_aload_n hx hb dX5_land_5 rfl (lv_at hl 0 rfl) ?_
  refine c_get (v := .ref (it j9)) (C := RX5) (Tc := TX5) (N := 19) (ci := 4) hx hb hq pin_wsX50 hown hE hP hO 28 (sg_28 G h0 a _ _ _ _ _) rfl 9 (by decide) (hq _ pw_503) (fun _ h9 => h9) rfl dX5_land_6 ?_
  refine p_get (v := .int (nI (ysl y j9))) (C := RX6) (Tc := TX6) (N := 12) (ci := 12) hx hb hq pin_wsX60 hown hE hP hO (by rw [(hps.2.2.1.T hk9.2.1)]; decide) (rep_3 (hps.2.2.1.T hk9.2.1)) rfl 9 (by decide) (hq _ pw_519) (fun _ h9 => h9) (congrArg (fun z => some (Value.int z)) (hpy.2.1 j9 hk9.2.1).2.2.2.2.2.1) dX5_land_9 ?_
  refine lv_iadd hx hb dX5_land_12 ?_
  refine lv_topi (fun x1 e2 => ?_)
  obtain rfl : x1 = nI (ba + (ysl y j9)) := e2.trans (nI_add (ba) ((ysl y j9)))
  refine c_put (v := .int (nI (ba + (ysl y j9)))) (ty := .int) (C := RX5) (Tc := TX5) (N := 19) (ci := 4) hx hb hq pin_wsX50 tyX5 tyX5_ok nmX5 hown hE hP hD hS hO 28 (sg_28 G h0 a _ _ _ _ _) rfl 11 (by decide) (hq _ pw_505) (fun _ h9 => h9) rfl (by decide +kernel) rfl rfl (Nat.le_of_ble_eq_true rfl) (sf_19 G h0 a _ _ _ _ _ (nI (ba + (ysl y j9)))) dX5_land_13 (fun H locs w hP hD hS hO => ?_)
  refine lv_aload_n hx hb dX5_land_16 rfl (lv_at hl 0 rfl) ?_
  refine lv_aload_n hx hb dX5_land_17 rfl (lv_at hl 0 rfl) ?_
  refine c_get (v := .ref (a 2)) (C := RX5) (Tc := TX5) (N := 19) (ci := 4) hx hb hq pin_wsX50 hown hE hP hO 28 (sg_28 G h0 a _ _ _ _ _) rfl 0 (by decide) (hq _ pw_470) (fun _ h9 => h9) rfl dX5_land_18 ?_
  refine lv_iload_n hx hb dX5_land_21 rfl (lv_at hl 1 rfl) ?_
  have hO : OKW G h0 a (upd (upd (upd (upd F 6 (nI rg)) 18 (nI ba)) 19 (nI (ba + (ysl y j9)))) 6 (nI rg)) (updR (updR R 5 (.ref pq)) 6 (.ref (it j9))) Z B J K.1 (fun q99 x99 => x99 = rep G a K q99) w := hO.to rfl
  obtain ⟨_, qr6, hqr7⟩ := hO.2.1 13 _ (sg_13 G h0 a _ _ _ _ _)
  refine pc_V0 (G := G) (As := [.int (nI k9)]) (rest := [.ref (a 5)]) hx hb hml hown hq hE hX pX0_al hP hD hS hA hl.1 (Y_handler l G h0 a (upd (upd (upd F 6 (nI rg)) 18 (nI ba)) 19 (nI (ba + (ysl y j9)))) (updR (updR R 5 (.ref pq)) 6 (.ref (it j9))) Z B J K.1 (fun q99 x99 => x99 = rep G a K q99) w k9 rg (by omega) (by omega) hO) (gV pw_691 pw_692 pw_693 pw_70 pw_385) hV_X1_handler qr6 1 hqr7 rfl rfl rfl (Nat.le_of_ble_eq_true rfl) dX5_land_22 ⟨Nat.le_of_ble_eq_true rfl, Nat.le_of_ble_eq_true rfl⟩ ⟨Nat.le_of_ble_eq_true rfl, Nat.le_of_ble_eq_true rfl⟩ (fun v5 u3 H locs hw4 hP hD hS => ?_)
  obtain ⟨w, _⟩ := u3
  obtain ⟨hw4, hO⟩ := hw4
  obtain rfl : v5 = some (.int ((B 22) k9)) := hw4
  have hO : OKP G h0 a (upd (upd (upd F 6 (nI rg)) 18 (nI ba)) 19 (nI (ba + (ysl y j9)))) (updR (updR R 5 (.ref pq)) 6 (.ref (it j9))) Z B J K w := hO.to rfl
  refine W.widen (k := 0) (n := 0) (Nat.le_of_ble_eq_true rfl) (Nat.le_of_ble_eq_true rfl) ?_
  refine W.eq (g2 := F0 m 25 ls [.int ((B 22) k9), .ref (a 5)]) rfl ?_
  rw [hv3]
  refine c_put (v := .int (nI ((yQ y).2.2.1 k9))) (ty := .int) (C := RX5) (Tc := TX5) (N := 19) (ci := 4) hx hb hq pin_wsX50 tyX5 tyX5_ok nmX5 hown hE hP hD hS hO 28 (sg_28 G h0 a _ _ _ _ _) rfl 13 (by decide) (hq _ pw_566) (fun _ h9 => h9) rfl (by decide +kernel) rfl rfl (Nat.le_of_ble_eq_true rfl) (sf_21 G h0 a _ _ _ _ _ (nI ((yQ y).2.2.1 k9))) dX5_land_25 (fun H locs w hP hD hS hO => ?_)
  refine lv_aload_n hx hb dX5_land_28 rfl (lv_at hl 0 rfl) ?_
  refine c_get (v := .ref (a 2)) (C := RX5) (Tc := TX5) (N := 19) (ci := 4) hx hb hq pin_wsX50 hown hE hP hO 28 (sg_28 G h0 a _ _ _ _ _) rfl 0 (by decide) (hq _ pw_470) (fun _ h9 => h9) rfl dX5_land_29 ?_
  refine lv_iload_n hx hb dX5_land_32 rfl (lv_at hl 1 rfl) ?_
  have hO : OKW G h0 a (upd (upd (upd (upd (upd F 6 (nI rg)) 18 (nI ba)) 19 (nI (ba + (ysl y j9)))) 21 (nI ((yQ y).2.2.1 k9))) 6 (nI rg)) (updR (updR R 5 (.ref pq)) 6 (.ref (it j9))) Z B J K.1 (fun q99 x99 => x99 = rep G a K q99) w := hO.to rfl
  obtain ⟨_, qr11, hqr12⟩ := hO.2.1 13 _ (sg_13 G h0 a _ _ _ _ _)
  refine pc_V0 (G := G) (As := [.int (nI k9)]) (rest := []) hx hb hml hown hq hE hX pX0_al hP hD hS hA hl.1 (Y_slot l G h0 a (upd (upd (upd (upd F 6 (nI rg)) 18 (nI ba)) 19 (nI (ba + (ysl y j9)))) 21 (nI ((yQ y).2.2.1 k9))) (updR (updR R 5 (.ref pq)) 6 (.ref (it j9))) Z B J K.1 (fun q99 x99 => x99 = rep G a K q99) w k9 rg (by omega) (by omega) hO) (gV pw_694 pw_695 pw_696 pw_70 pw_386) hV_X1_slot qr11 1 hqr12 rfl rfl rfl (Nat.le_of_ble_eq_true rfl) dX5_land_33 ⟨Nat.le_of_ble_eq_true rfl, Nat.le_of_ble_eq_true rfl⟩ ⟨Nat.le_of_ble_eq_true rfl, Nat.le_of_ble_eq_true rfl⟩ (fun v10 u8 H locs hw9 hP hD hS => ?_)
  obtain ⟨w, _⟩ := u8
  obtain ⟨hw9, hO⟩ := hw9
  obtain rfl : v10 = some (.int ((B 24) k9)) := hw9
  have hO : OKP G h0 a (upd (upd (upd (upd F 6 (nI rg)) 18 (nI ba)) 19 (nI (ba + (ysl y j9)))) 21 (nI ((yQ y).2.2.1 k9))) (updR (updR R 5 (.ref pq)) 6 (.ref (it j9))) Z B J K w := hO.to rfl
  refine W.widen (k := 0) (n := 0) (Nat.le_of_ble_eq_true rfl) (Nat.le_of_ble_eq_true rfl) ?_
  refine W.eq (g2 := F0 m 36 ls [.int ((B 24) k9)]) rfl ?_
  rw [hv5]
  refine lv_istore (lv' := [(5, .int (nI ((yQ y).2.2.2.1 k9))), (0, .ref (a 5)), (1, .int (nI k9)), (2, .int x), (3, .long v9)]) hx hb dX5_land_36 hl (by decide) rfl (fun ls hl => ?_)
  refine lv_aload_n hx hb dX5_land_38 rfl (lv_at hl 1 rfl) ?_
  refine c_get (v := .ref (a 2)) (C := RX5) (Tc := TX5) (N := 19) (ci := 4) hx hb hq pin_wsX50 hown hE hP hO 28 (sg_28 G h0 a _ _ _ _ _) rfl 0 (by decide) (hq _ pw_470) (fun _ h9 => h9) rfl dX5_land_39 ?_
  refine lv_iload_n hx hb dX5_land_42 rfl (lv_at hl 2 rfl) ?_
  have hO : OKW G h0 a (upd (upd (upd (upd (upd F 6 (nI rg)) 18 (nI ba)) 19 (nI (ba + (ysl y j9)))) 21 (nI ((yQ y).2.2.1 k9))) 6 (nI rg)) (updR (updR R 5 (.ref pq)) 6 (.ref (it j9))) Z B J K.1 (fun q99 x99 => x99 = rep G a K q99) w := hO.to rfl
  obtain ⟨_, qr16, hqr17⟩ := hO.2.1 13 _ (sg_13 G h0 a _ _ _ _ _)
  refine pc_V0 (G := G) (As := [.int (nI k9)]) (rest := []) hx hb hml hown hq hE hX pX0_al hP hD hS hA hl.1 (Y_caught l G h0 a (upd (upd (upd (upd F 6 (nI rg)) 18 (nI ba)) 19 (nI (ba + (ysl y j9)))) 21 (nI ((yQ y).2.2.1 k9))) (updR (updR R 5 (.ref pq)) 6 (.ref (it j9))) Z B J K.1 (fun q99 x99 => x99 = rep G a K q99) w k9 rg (by omega) (by omega) hO) (gV pw_697 pw_698 pw_699 pw_70 pw_384) hV_X1_caught qr16 1 hqr17 rfl rfl rfl (Nat.le_of_ble_eq_true rfl) dX5_land_43 ⟨Nat.le_of_ble_eq_true rfl, Nat.le_of_ble_eq_true rfl⟩ ⟨Nat.le_of_ble_eq_true rfl, Nat.le_of_ble_eq_true rfl⟩ (fun v15 u13 H locs hw14 hP hD hS => ?_)
  obtain ⟨w, _⟩ := u13
  obtain ⟨hw14, hO⟩ := hw14
  obtain rfl : v15 = some (.int ((B 23) k9)) := hw14
  have hO : OKP G h0 a (upd (upd (upd (upd F 6 (nI rg)) 18 (nI ba)) 19 (nI (ba + (ysl y j9)))) 21 (nI ((yQ y).2.2.1 k9))) (updR (updR R 5 (.ref pq)) 6 (.ref (it j9))) Z B J K w := hO.to rfl
  refine W.widen (k := 0) (n := 0) (Nat.le_of_ble_eq_true rfl) (Nat.le_of_ble_eq_true rfl) ?_
  refine W.eq (g2 := F0 m 46 ls [.int ((B 23) k9)]) rfl ?_
  rw [hv4, hcl]
  refine lv_iconst (v := (-1)) hx hb dX5_land_46 (by decide) ?_
  refine lv_icmp_ne (tgt := 74) hx hb dX5_land_47 (by decide) (fun c18 => ?_) (fun c18 => (nI_m1 (n := c9) (by omega) c18).elim)
  refine lv_aload_n hx hb dX5_land_74 rfl (lv_at hl 1 rfl) ?_
  refine lv_iload hx hb dX5_land_75 (lv_at hl 0 rfl) ?_
  refine lv_lload_n hx hb dX5_land_77 rfl (lv_at hl 4 rfl) ?_
  have hO : OKW G h0 a (upd (upd (upd (upd (upd F 6 (nI rg)) 18 (nI ba)) 19 (nI (ba + (ysl y j9)))) 21 (nI ((yQ y).2.2.1 k9))) 18 (nI ba)) (updR (updR R 5 (.ref pq)) 6 (.ref (it j9))) Z B J K.1 (fun q99 x99 => x99 = rep G a K q99) w := hO.to rfl
  obtain ⟨_, qr22, hqr23⟩ := hO.2.1 28 _ (sg_28 G h0 a _ _ _ _ _)
  refine pc_V0 (G := G) (As := [.int (nI ((yQ y).2.2.2.1 k9)), .long v9]) (rest := []) hx hb hml hown hq hE hX pX0_al hP hD hS hA hl.1 (Y_setSlot l G h0 a (upd (upd (upd (upd F 6 (nI rg)) 18 (nI ba)) 19 (nI (ba + (ysl y j9)))) 21 (nI ((yQ y).2.2.1 k9))) (updR (updR R 5 (.ref pq)) 6 (.ref (it j9))) Z B J K.1 (fun q99 x99 => x99 = rep G a K q99) w ba ((yQ y).2.2.2.1 k9) v9 (by omega) hO) (gV pw_625 pw_626 pw_627 pw_539 pw_596) hV_X5_setSlot qr22 4 hqr23 rfl rfl rfl (Nat.le_of_ble_eq_true rfl) dX5_land_78 ⟨Nat.le_of_ble_eq_true rfl, Nat.le_of_ble_eq_true rfl⟩ ⟨Nat.le_of_ble_eq_true rfl, Nat.le_of_ble_eq_true rfl⟩ (fun v21 u19 H locs hw20 hP hD hS => ?_)
  obtain ⟨w, _⟩ := u19
  obtain ⟨hw20, hO⟩ := hw20
  obtain rfl : v21 = none := hw20
  have hO : OKP G h0 a (upd (upd (upd (upd F 6 (nI rg)) 18 (nI ba)) 19 (nI (ba + (ysl y j9)))) 21 (nI ((yQ y).2.2.1 k9))) (updR (updR R 5 (.ref pq)) 6 (.ref (it j9))) Z B (updJ J 29 (vp_updL ((J 29)) (ba + ((yQ y).2.2.2.1 k9)) v9)) K w := hO.to rfl
  refine W.widen (k := 0) (n := 0) (Nat.le_of_ble_eq_true rfl) (Nat.le_of_ble_eq_true rfl) ?_
  refine W.eq (g2 := F0 m 81 ls []) rfl ?_
  have hO : OKP G h0 a (upd (upd (upd (upd F 6 (nI rg)) 18 (nI ba)) 19 (nI (ba + ysl y j9))) 21 (nI ((yQ y).2.2.1 k9))) (updR (updR R 5 (.ref pq)) 6 (.ref (it j9))) Z B (updJ J 29 (vp_updL (J 29) (ba + ((yQ y).2.2.2.1 k9)) v9)) K w := hO.to rfl
  exact W.vret hx hb hr (fun t99 ht99 hW99 => ⟨⟨_, (w, ()), rfl, ⟨rfl, hO⟩, by rw [ht99]; exact hP, hD⟩, hS.F ht99⟩) hS.2.2 dX5_land_81
set_option maxHeartbeats 30000000 in
set_option maxRecDepth 100000 in
theorem Y_handlerOf (l : Launch) (G : pT) (h0 : Nat) (a : Nat → Nat) (F : Nat → Int32) (R : Nat → Value) (Z : Int64) (B : Nat → Nat → Int32) (J : Nat → Nat → Int64) (K : PK) (w : va_W) (y : TY) (j9 : Nat) (pc : Nat) (d9 : Nat) (pq : Nat) (dr : Nat) (ml : Nat) (nd : Nat) (nm : Nat) (cp : Nat) (it : Nat → Nat) (s9 : Nat) (g : Nat → Nat → Nat) (rk : Nat → Nat) (cs : Nat) (rg : Nat) (hwp : WPr G K g) (hps : PgT G K g (a 1) pq dr ml nd nm cp it s9) (hrk : RkO K rk) (hpy : PrY y K B dr nd nm it cs rg) (hcs9 : cs ≤ 10000) (hj9 : j9 < nm ∧ pc < 10000 ∧ d9 < 128 ∧ rg ≤ 625) (hO : OKP G h0 a (upd (upd (upd F 5 (nI cs)) 6 (nI rg)) 20 (nI pc)) (updR (updR R 5 (.ref pq)) 6 (.ref (it j9))) Z B J K w) : PM l G pX0 yX5_handlerOf cX5_handlerOf 4 (some .int) ({ frames := 4, cells := 0, slots := 0, locals := 104 }) [.ref (a 5), .int (nI d9)] w (fun (v : Option Value) (u : va_W × (Int32)) => v = some (.int u.2) ∧ (HoQ y K dr nd j9 pc d9 u.2) ∧ (OKP G h0 a (upd (upd (upd F 5 (nI cs)) 6 (nI rg)) 20 (nI pc)) (updR (updR R 5 (.ref pq)) 6 (.ref (it j9))) Z B J K u.1)) (fun u => u.1) := by
  intro sz
  refine Met.ofW (cc := cX5_handlerOf) (maxL := 4) (ret := (some .int)) (by decide) rfl ?_
  intro p e s m args below meth c s₁ B9 hml hv
  obtain ⟨rfl, hsz, hP, hD0, hE, hX⟩ := hv
  have hx := B9.exec
  have hb := B9.bytes
  have hr := B9.returns
  have hts := atoms_spec (ws := Cond.code yX5_handlerOf cX5_handlerOf 4 (some .int) :: pw) B9.pre
  have hq : ∀ w ∈ pw, w.before _ s = true := fun w h => hts w (List.mem_cons_of_mem _ h)
  have hown : s.vm.findClass RX5 = some m.cls := findClass_of_methodNamed B9.named
  have hlocks := B9.notSynchronized
  subst hsz
  have hD := hD0.self (sz := s.heap.size)
  have hA : ∀ q : Nat, s.heap.size ≤ q → va_A w s.heap.size q := fun q h => Or.inr h
  generalize va_A w s.heap.size = A at hD hE hA ⊢
  have hS : va_S A s.heap s.heap [] := va_S.rf
  have hl := lv_entry ([.ref (a 5), .int (nI d9)]) (n := 4) (Nat.le_of_ble_eq_true rfl)
  rw [lg_entry_eq]
  generalize (lg_sl ([.ref (a 5), .int (nI d9)]) ++ List.replicate (4 - (lg_sl ([.ref (a 5), .int (nI d9)])).length) Slot.unset).toArray = ls at hl ⊢
  have hl : lv_has ls 4 [(0, .ref (a 5)), (1, .int (nI d9))] := hl
  have hpg := hps.1
  have hp1 := hpg.1
  have hp2 := hpg.2.1
  have hp3 := hpg.2.2.1
  have hp4 := hpg.2.2.2.1
  have hp5 := hpg.2.2.2.2.1
  have hp6 := hpg.2.2.2.2.2.1
  have hp8 := hpg.2.2.2.2.2.2.2.1
  have hp9 := hpg.2.2.2.2.2.2.2.2
  have hmj := hpy.2.1 j9 hj9.1
  have hrj := hmj.2.2.2.2.2.2.2.2.1
  refine lv_aload_n hx hb dX5_handlerOf_0 rfl (lv_at hl 0 rfl) ?_
  refine c_get (v := .ref (it j9)) (C := RX5) (Tc := TX5) (N := 19) (ci := 4) hx hb hq pin_wsX50 hown hE hP hO 28 (sg_28 G h0 a _ _ _ _ _) rfl 9 (by decide) (hq _ pw_503) (fun _ h9 => h9) rfl dX5_handlerOf_1 ?_
  refine p_get (v := .int (nI (yr0 y j9))) (C := RX6) (Tc := TX6) (N := 12) (ci := 12) hx hb hq pin_wsX60 hown hE hP hO (by rw [(hps.2.2.1.T hj9.1)]; decide) (rep_3 (hps.2.2.1.T hj9.1)) rfl 10 (by decide) (hq _ pw_707) (fun _ h9 => h9) (congrArg (fun z => some (Value.int z)) hmj.2.2.2.2.2.2.1) dX5_handlerOf_4 ?_
  refine lv_istore_n (lv' := [(2, .int (nI (yr0 y j9))), (0, .ref (a 5)), (1, .int (nI d9))]) hx hb dX5_handlerOf_7 rfl hl (by decide) rfl (fun ls hl => ?_)
  have loop_r : ∀ (n_r : Nat) (k2 : Nat) (H : Heap) (locs : List Loc) (ls : Array Slot) (w : va_W), k2 ≤ (yr1 y j9) → (yr1 y j9) + 1 ≤ k2 + n_r → (yr0 y j9 ≤ k2) → va_P G.1 pCl w H → va_D A w → va_S A s.heap H locs → OKP G h0 a (upd (upd (upd F 5 (nI cs)) 6 (nI rg)) 20 (nI pc)) (updR (updR R 5 (.ref pq)) 6 (.ref (it j9))) Z B J K w → lv_has ls 4 [(2, .int (nI k2)), (1, .int (nI d9)), (0, .ref (a 5))] → W p l e (headSpec (Cond.code yX5_handlerOf cX5_handlerOf 4 (some .int) :: pw) ({ frames := 4, cells := 0, slots := 0, locals := 104 } : Room)).room s m ([.ref (a 5), .int (nI d9)] : List Value).toArray below meth c H locs 0 0 (MQ below (pQ G A (fun (v : Option Value) (u : va_W × (Int32)) => v = some (.int u.2) ∧ (HoQ y K dr nd j9 pc d9 u.2) ∧ (OKP G h0 a (upd (upd (upd F 5 (nI cs)) 6 (nI rg)) 20 (nI pc)) (updR (updR R 5 (.ref pq)) 6 (.ref (it j9))) Z B J K u.1)) (fun u => u.1)) ([.ref (a 5), .int (nI d9)] : List Value).toArray s ({ frames := 4, cells := 0, slots := 0, locals := 104 } : Room).cells ({ frames := 4, cells := 0, slots := 0, locals := 104 } : Room).slots A) (F0 m 8 ls []) := by
    intro n_r
    induction n_r with
    | zero => intro k2 H locs ls w hk_r hn_r; omega
    | succ n_r ih_r =>
      intro k2 H locs ls w hk_r hn_r hk2 hP hD hS hO hl
      refine lv_iload_n hx hb dX5_handlerOf_8 rfl (lv_at hl 0 rfl) ?_
      refine lv_aload_n hx hb dX5_handlerOf_9 rfl (lv_at hl 2 rfl) ?_
      refine c_get (v := .ref (it j9)) (C := RX5) (Tc := TX5) (N := 19) (ci := 4) hx hb hq pin_wsX50 hown hE hP hO 28 (sg_28 G h0 a _ _ _ _ _) rfl 9 (by decide) (hq _ pw_503) (fun _ h9 => h9) rfl dX5_handlerOf_10 ?_
      refine p_get (v := .int (nI (yr1 y j9))) (C := RX6) (Tc := TX6) (N := 12) (ci := 12) hx hb hq pin_wsX60 hown hE hP hO (by rw [(hps.2.2.1.T hj9.1)]; decide) (rep_3 (hps.2.2.1.T hj9.1)) rfl 11 (by decide) (hq _ pw_708) (fun _ h9 => h9) (congrArg (fun z => some (Value.int z)) hmj.2.2.2.2.2.2.2.1) dX5_handlerOf_13 ?_
      refine lv_icmp_ge (tgt := 68) hx hb dX5_handlerOf_16 (by decide) (fun c1 => ?_) (fun c1 => ?_)
      · have n2 : (yr1 y j9) ≤ k2 := (nI_leI (a := (yr1 y j9)) (b := k2) (by omega) (by omega)).mp c1
        refine lv_iconst (v := (-1)) hx hb dX5_handlerOf_68 (by decide) ?_
        have hz3 : HoQ y K dr nd j9 pc d9 (-1 : Int32) := (Or.inl rfl)
        have hO : OKP G h0 a (upd (upd (upd F 5 (nI cs)) 6 (nI rg)) 20 (nI pc)) (updR (updR R 5 (.ref pq)) 6 (.ref (it j9))) Z B J K w := hO.to rfl
        exact W.iret (v := (-1)) hx hb hr (fun t99 ht99 hW99 => ⟨⟨_, (w, (-1 : Int32)), rfl, ⟨rfl, hz3, hO⟩, by rw [ht99]; exact hP, hD⟩, hS.F ht99⟩) hS.2.2 dX5_handlerOf_69
      · have n4 : ¬ ((yr1 y j9) ≤ k2) := fun h9 => c1 ((nI_leI (a := (yr1 y j9)) (b := k2) (by omega) (by omega)).mpr h9)
        obtain ⟨hv1, hv2, hv3, hv4, hv5, hv6, hv7, hv8, hv9, hva⟩ := hpy.2.2.1 k2 (by omega)
        refine lv_aload_n hx hb dX5_handlerOf_19 rfl (lv_at hl 2 rfl) ?_
        refine c_get (v := .ref (a 2)) (C := RX5) (Tc := TX5) (N := 19) (ci := 4) hx hb hq pin_wsX50 hown hE hP hO 28 (sg_28 G h0 a _ _ _ _ _) rfl 0 (by decide) (hq _ pw_470) (fun _ h9 => h9) rfl dX5_handlerOf_20 ?_
        refine lv_iload_n hx hb dX5_handlerOf_23 rfl (lv_at hl 0 rfl) ?_
        have hO : OKW G h0 a (upd (upd (upd (upd F 5 (nI cs)) 6 (nI rg)) 20 (nI pc)) 6 (nI rg)) (updR (updR R 5 (.ref pq)) 6 (.ref (it j9))) Z B J K.1 (fun q99 x99 => x99 = rep G a K q99) w := hO.to rfl
        obtain ⟨_, qr8, hqr9⟩ := hO.2.1 13 _ (sg_13 G h0 a _ _ _ _ _)
        refine pc_V0 (G := G) (As := [.int (nI k2)]) (rest := []) hx hb hml hown hq hE hX pX0_al hP hD hS hA hl.1 (Y_caught l G h0 a (upd (upd (upd F 5 (nI cs)) 6 (nI rg)) 20 (nI pc)) (updR (updR R 5 (.ref pq)) 6 (.ref (it j9))) Z B J K.1 (fun q99 x99 => x99 = rep G a K q99) w k2 rg (by omega) (by omega) hO) (gV pw_697 pw_698 pw_699 pw_70 pw_384) hV_X1_caught qr8 1 hqr9 rfl rfl rfl (Nat.le_of_ble_eq_true rfl) dX5_handlerOf_24 ⟨Nat.le_of_ble_eq_true rfl, Nat.le_of_ble_eq_true rfl⟩ ⟨Nat.le_of_ble_eq_true rfl, Nat.le_of_ble_eq_true rfl⟩ (fun v7 u5 H locs hw6 hP hD hS => ?_)
        obtain ⟨w, _⟩ := u5
        obtain ⟨hw6, hO⟩ := hw6
        obtain rfl : v7 = some (.int ((B 23) k2)) := hw6
        have hO : OKP G h0 a (upd (upd (upd F 5 (nI cs)) 6 (nI rg)) 20 (nI pc)) (updR (updR R 5 (.ref pq)) 6 (.ref (it j9))) Z B J K w := hO.to rfl
        refine W.widen (k := 0) (n := 0) (Nat.le_of_ble_eq_true rfl) (Nat.le_of_ble_eq_true rfl) ?_
        refine W.eq (g2 := F0 m 27 ls [.int ((B 23) k2)]) rfl ?_
        rw [hv4]
        rcases hva with hcl | ⟨c7, hc7, hcl⟩
        · rw [hcl]
          refine W.eq (g2 := F0 m 27 ls [.int (-1)]) rfl ?_
          refine lv_istore_n (lv' := [(3, .int (-1)), (2, .int (nI k2)), (1, .int (nI d9)), (0, .ref (a 5))]) hx hb dX5_handlerOf_27 rfl hl (by decide) rfl (fun ls hl => ?_)
          refine lv_aload_n hx hb dX5_handlerOf_28 rfl (lv_at hl 3 rfl) ?_
          refine c_get (v := .ref (a 2)) (C := RX5) (Tc := TX5) (N := 19) (ci := 4) hx hb hq pin_wsX50 hown hE hP hO 28 (sg_28 G h0 a _ _ _ _ _) rfl 0 (by decide) (hq _ pw_470) (fun _ h9 => h9) rfl dX5_handlerOf_29 ?_
          refine lv_iload_n hx hb dX5_handlerOf_32 rfl (lv_at hl 1 rfl) ?_
          refine lv_aload_n hx hb dX5_handlerOf_33 rfl (lv_at hl 3 rfl) ?_
          refine c_get (v := .int (nI pc)) (C := RX5) (Tc := TX5) (N := 19) (ci := 4) hx hb hq pin_wsX50 hown hE hP hO 28 (sg_28 G h0 a _ _ _ _ _) rfl 12 (by decide) (hq _ pw_506) (fun _ h9 => h9) rfl dX5_handlerOf_34 ?_
          have hO : OKW G h0 a (upd (upd (upd (upd F 5 (nI cs)) 6 (nI rg)) 20 (nI pc)) 6 (nI rg)) (updR (updR R 5 (.ref pq)) 6 (.ref (it j9))) Z B J K.1 (fun q99 x99 => x99 = rep G a K q99) w := hO.to rfl
          obtain ⟨_, qr13, hqr14⟩ := hO.2.1 13 _ (sg_13 G h0 a _ _ _ _ _)
          refine pc_V0 (G := G) (As := [.int (nI k2), .int (nI pc)]) (rest := []) hx hb hml hown hq hE hX pX0_al hP hD hS hA hl.1 (Y_isWithin l G h0 a (upd (upd (upd F 5 (nI cs)) 6 (nI rg)) 20 (nI pc)) (updR (updR R 5 (.ref pq)) 6 (.ref (it j9))) Z B J K.1 (fun q99 x99 => x99 = rep G a K q99) w k2 rg pc ((yQ y).1 k2) ((yQ y).2.1 k2) (by omega) (by omega) (by omega) hv1 hv2 hO) (gV pw_709 pw_710 pw_711 pw_70 pw_383) hV_X1_isWithin qr13 1 hqr14 rfl rfl rfl (Nat.le_of_ble_eq_true rfl) dX5_handlerOf_37 ⟨Nat.le_of_ble_eq_true rfl, Nat.le_of_ble_eq_true rfl⟩ ⟨Nat.le_of_ble_eq_true rfl, Nat.le_of_ble_eq_true rfl⟩ (fun v12 u10 H locs hw11 hP hD hS => ?_)
          obtain ⟨w, _⟩ := u10
          obtain ⟨hw11, hO⟩ := hw11
          obtain rfl : v12 = some (.int (nI (wiN ((yQ y).1 k2) ((yQ y).2.1 k2) pc))) := hw11
          have hO : OKP G h0 a (upd (upd (upd F 5 (nI cs)) 6 (nI rg)) 20 (nI pc)) (updR (updR R 5 (.ref pq)) 6 (.ref (it j9))) Z B J K w := hO.to rfl
          refine W.widen (k := 0) (n := 0) (Nat.le_of_ble_eq_true rfl) (Nat.le_of_ble_eq_true rfl) ?_
          refine W.eq (g2 := F0 m 40 ls [.int (nI (wiN ((yQ y).1 k2) ((yQ y).2.1 k2) pc))]) rfl ?_
          have hwi9 := wiN_le (s := (yQ y).1 k2) (e := (yQ y).2.1 k2) (x := pc)
          refine lv_if_eq (tgt := 62) hx hb dX5_handlerOf_40 (by decide) (fun c15 => ?_) (fun c15 => ?_)
          · have n16 : (wiN ((yQ y).1 k2) ((yQ y).2.1 k2) pc) = 0 := (nI_eq (a := (wiN ((yQ y).1 k2) ((yQ y).2.1 k2) pc)) (b := 0) (by omega) (by omega)).mp c15
            refine lv_iinc (v := (nI (k2 + 1))) (lv' := [(2, .int (nI (k2 + 1))), (3, .int (-1)), (1, .int (nI d9)), (0, .ref (a 5))]) hx hb dX5_handlerOf_62 hl (k := 1) rfl (nI_1 k2) (by decide) rfl (fun ls hl => ?_)
            refine lv_goto (tgt := 8) hx hb dX5_handlerOf_65 (by decide) ?_
            have hO : OKP G h0 a (upd (upd (upd F 5 (nI cs)) 6 (nI rg)) 20 (nI pc)) (updR (updR R 5 (.ref pq)) 6 (.ref (it j9))) Z B J K w := hO.to rfl
            exact ih_r (k2 + 1) _ _ _ _ (by omega) (by omega) (by omega) hP hD hS hO (lv_sub hl [0, 2, 3] rfl)
          · have n17 : ¬ ((wiN ((yQ y).1 k2) ((yQ y).2.1 k2) pc) = 0) := fun h9 => c15 ((nI_eq (a := (wiN ((yQ y).1 k2) ((yQ y).2.1 k2) pc)) (b := 0) (by omega) (by omega)).mpr h9)
            have hin := wiN_of (s := (yQ y).1 k2) (e := (yQ y).2.1 k2) (x := pc) (fun z => c15 (by rw [z]; rfl))
            refine lv_iload_n hx hb dX5_handlerOf_43 rfl (lv_at hl 0 rfl) ?_
            refine lv_iconst (v := (-1)) hx hb dX5_handlerOf_44 (by decide) ?_
            refine lv_icmp_eq (tgt := 60) hx hb dX5_handlerOf_45 (by decide) (fun c18 => ?_) (fun c18 => absurd c18 (by decide))
            refine lv_iload_n hx hb dX5_handlerOf_60 rfl (lv_at hl 1 rfl) ?_
            have hz19 : HoQ y K dr nd j9 pc d9 (nI k2) := (Or.inr ⟨k2, by omega, rfl, ⟨by omega, by omega⟩, hin, Or.inl hcl⟩)
            have hO : OKP G h0 a (upd (upd (upd F 5 (nI cs)) 6 (nI rg)) 20 (nI pc)) (updR (updR R 5 (.ref pq)) 6 (.ref (it j9))) Z B J K w := hO.to rfl
            exact W.iret (v := (nI k2)) hx hb hr (fun t99 ht99 hW99 => ⟨⟨_, (w, (nI k2)), rfl, ⟨rfl, hz19, hO⟩, by rw [ht99]; exact hP, hD⟩, hS.F ht99⟩) hS.2.2 dX5_handlerOf_61
        · rw [hcl]
          refine W.eq (g2 := F0 m 27 ls [.int (nI c7)]) rfl ?_
          refine lv_istore_n (lv' := [(3, .int (nI c7)), (2, .int (nI k2)), (1, .int (nI d9)), (0, .ref (a 5))]) hx hb dX5_handlerOf_27 rfl hl (by decide) rfl (fun ls hl => ?_)
          refine lv_aload_n hx hb dX5_handlerOf_28 rfl (lv_at hl 3 rfl) ?_
          refine c_get (v := .ref (a 2)) (C := RX5) (Tc := TX5) (N := 19) (ci := 4) hx hb hq pin_wsX50 hown hE hP hO 28 (sg_28 G h0 a _ _ _ _ _) rfl 0 (by decide) (hq _ pw_470) (fun _ h9 => h9) rfl dX5_handlerOf_29 ?_
          refine lv_iload_n hx hb dX5_handlerOf_32 rfl (lv_at hl 1 rfl) ?_
          refine lv_aload_n hx hb dX5_handlerOf_33 rfl (lv_at hl 3 rfl) ?_
          refine c_get (v := .int (nI pc)) (C := RX5) (Tc := TX5) (N := 19) (ci := 4) hx hb hq pin_wsX50 hown hE hP hO 28 (sg_28 G h0 a _ _ _ _ _) rfl 12 (by decide) (hq _ pw_506) (fun _ h9 => h9) rfl dX5_handlerOf_34 ?_
          have hO : OKW G h0 a (upd (upd (upd (upd F 5 (nI cs)) 6 (nI rg)) 20 (nI pc)) 6 (nI rg)) (updR (updR R 5 (.ref pq)) 6 (.ref (it j9))) Z B J K.1 (fun q99 x99 => x99 = rep G a K q99) w := hO.to rfl
          obtain ⟨_, qr23, hqr24⟩ := hO.2.1 13 _ (sg_13 G h0 a _ _ _ _ _)
          refine pc_V0 (G := G) (As := [.int (nI k2), .int (nI pc)]) (rest := []) hx hb hml hown hq hE hX pX0_al hP hD hS hA hl.1 (Y_isWithin l G h0 a (upd (upd (upd F 5 (nI cs)) 6 (nI rg)) 20 (nI pc)) (updR (updR R 5 (.ref pq)) 6 (.ref (it j9))) Z B J K.1 (fun q99 x99 => x99 = rep G a K q99) w k2 rg pc ((yQ y).1 k2) ((yQ y).2.1 k2) (by omega) (by omega) (by omega) hv1 hv2 hO) (gV pw_709 pw_710 pw_711 pw_70 pw_383) hV_X1_isWithin qr23 1 hqr24 rfl rfl rfl (Nat.le_of_ble_eq_true rfl) dX5_handlerOf_37 ⟨Nat.le_of_ble_eq_true rfl, Nat.le_of_ble_eq_true rfl⟩ ⟨Nat.le_of_ble_eq_true rfl, Nat.le_of_ble_eq_true rfl⟩ (fun v22 u20 H locs hw21 hP hD hS => ?_)
          obtain ⟨w, _⟩ := u20
          obtain ⟨hw21, hO⟩ := hw21
          obtain rfl : v22 = some (.int (nI (wiN ((yQ y).1 k2) ((yQ y).2.1 k2) pc))) := hw21
          have hO : OKP G h0 a (upd (upd (upd F 5 (nI cs)) 6 (nI rg)) 20 (nI pc)) (updR (updR R 5 (.ref pq)) 6 (.ref (it j9))) Z B J K w := hO.to rfl
          refine W.widen (k := 0) (n := 0) (Nat.le_of_ble_eq_true rfl) (Nat.le_of_ble_eq_true rfl) ?_
          refine W.eq (g2 := F0 m 40 ls [.int (nI (wiN ((yQ y).1 k2) ((yQ y).2.1 k2) pc))]) rfl ?_
          have hwi9 := wiN_le (s := (yQ y).1 k2) (e := (yQ y).2.1 k2) (x := pc)
          refine lv_if_eq (tgt := 62) hx hb dX5_handlerOf_40 (by decide) (fun c25 => ?_) (fun c25 => ?_)
          · have n26 : (wiN ((yQ y).1 k2) ((yQ y).2.1 k2) pc) = 0 := (nI_eq (a := (wiN ((yQ y).1 k2) ((yQ y).2.1 k2) pc)) (b := 0) (by omega) (by omega)).mp c25
            refine lv_iinc (v := (nI (k2 + 1))) (lv' := [(2, .int (nI (k2 + 1))), (3, .int (nI c7)), (1, .int (nI d9)), (0, .ref (a 5))]) hx hb dX5_handlerOf_62 hl (k := 1) rfl (nI_1 k2) (by decide) rfl (fun ls hl => ?_)
            refine lv_goto (tgt := 8) hx hb dX5_handlerOf_65 (by decide) ?_
            have hO : OKP G h0 a (upd (upd (upd F 5 (nI cs)) 6 (nI rg)) 20 (nI pc)) (updR (updR R 5 (.ref pq)) 6 (.ref (it j9))) Z B J K w := hO.to rfl
            exact ih_r (k2 + 1) _ _ _ _ (by omega) (by omega) (by omega) hP hD hS hO (lv_sub hl [0, 2, 3] rfl)
          · have n27 : ¬ ((wiN ((yQ y).1 k2) ((yQ y).2.1 k2) pc) = 0) := fun h9 => c25 ((nI_eq (a := (wiN ((yQ y).1 k2) ((yQ y).2.1 k2) pc)) (b := 0) (by omega) (by omega)).mpr h9)
            have hin := wiN_of (s := (yQ y).1 k2) (e := (yQ y).2.1 k2) (x := pc) (fun z => c25 (by rw [z]; rfl))
            refine lv_iload_n hx hb dX5_handlerOf_43 rfl (lv_at hl 0 rfl) ?_
            refine lv_iconst (v := (-1)) hx hb dX5_handlerOf_44 (by decide) ?_
            refine lv_icmp_eq (tgt := 60) hx hb dX5_handlerOf_45 (by decide) (fun c28 => (nI_m1 (n := c7) (by omega) c28).elim) (fun c28 => ?_)
            refine lv_aload_n hx hb dX5_handlerOf_48 rfl (lv_at hl 3 rfl) ?_
            refine c_get (v := .ref pq) (C := RX5) (Tc := TX5) (N := 19) (ci := 4) hx hb hq pin_wsX50 hown hE hP hO 28 (sg_28 G h0 a _ _ _ _ _) rfl 8 (by decide) (hq _ pw_486) (fun _ h9 => h9) rfl dX5_handlerOf_49 ?_
            refine lv_iload_n hx hb dX5_handlerOf_52 rfl (lv_at hl 2 rfl) ?_
            refine lv_iload_n hx hb dX5_handlerOf_53 rfl (lv_at hl 0 rfl) ?_
            have hO : OKP G h0 a (upd (upd (upd F 5 (nI cs)) 6 (nI rg)) 20 (nI pc)) (updR (updR R 5 (.ref pq)) 6 (.ref (it j9))) Z B J K w := hO.to rfl
            obtain ⟨qr32, hqr33⟩ := p_recv hO (by rw [hp1]; decide) (rep_7 hp1)
            refine pc_V0 (G := G) (As := [.int (nI d9), .int (nI c7)]) (rest := []) hx hb hml hown hq hE hX pX0_al hP hD hS hA hl.1 (Y_fits l G h0 a (upd (upd (upd F 5 (nI cs)) 6 (nI rg)) 20 (nI pc)) (updR (updR R 5 (.ref pq)) 6 (.ref (it j9))) Z B J K w pq dr ml nd d9 c7 g hps.1 hps.2.1 (by omega) hO) (gV pw_644 pw_112 pw_113 pw_106 pw_103) hV_X9_fits qr32 6 hqr33 rfl rfl rfl (Nat.le_of_ble_eq_true rfl) dX5_handlerOf_54 ⟨Nat.le_of_ble_eq_true rfl, Nat.le_of_ble_eq_true rfl⟩ ⟨Nat.le_of_ble_eq_true rfl, Nat.le_of_ble_eq_true rfl⟩ (fun v31 u29 H locs hw30 hP hD hS => ?_)
            obtain ⟨w, r34⟩ := u29
            obtain ⟨hw30, h35, h36, hO⟩ := hw30
            have h35 : r34 ≤ 1 := h35
            have h36 : r34 = 1 ↔ fitK (btK K dr) nd d9 c7 := h36
            obtain rfl : v31 = some (.int (nI r34)) := hw30
            have hO : OKP G h0 a (upd (upd (upd F 5 (nI cs)) 6 (nI rg)) 20 (nI pc)) (updR (updR R 5 (.ref pq)) 6 (.ref (it j9))) Z B J K w := hO.to rfl
            refine W.widen (k := 0) (n := 0) (Nat.le_of_ble_eq_true rfl) (Nat.le_of_ble_eq_true rfl) ?_
            refine W.eq (g2 := F0 m 57 ls [.int (nI r34)]) rfl ?_
            refine lv_if_eq (tgt := 62) hx hb dX5_handlerOf_57 (by decide) (fun c37 => ?_) (fun c37 => ?_)
            · have n38 : r34 = 0 := (nI_eq (a := r34) (b := 0) (by omega) (by omega)).mp c37
              refine lv_iinc (v := (nI (k2 + 1))) (lv' := [(2, .int (nI (k2 + 1))), (3, .int (nI c7)), (1, .int (nI d9)), (0, .ref (a 5))]) hx hb dX5_handlerOf_62 hl (k := 1) rfl (nI_1 k2) (by decide) rfl (fun ls hl => ?_)
              refine lv_goto (tgt := 8) hx hb dX5_handlerOf_65 (by decide) ?_
              have hO : OKP G h0 a (upd (upd (upd F 5 (nI cs)) 6 (nI rg)) 20 (nI pc)) (updR (updR R 5 (.ref pq)) 6 (.ref (it j9))) Z B J K w := hO.to rfl
              exact ih_r (k2 + 1) _ _ _ _ (by omega) (by omega) (by omega) hP hD hS hO (lv_sub hl [0, 2, 3] rfl)
            · have n39 : ¬ (r34 = 0) := fun h9 => c37 ((nI_eq (a := r34) (b := 0) (by omega) (by omega)).mpr h9)
              refine lv_iload_n hx hb dX5_handlerOf_60 rfl (lv_at hl 1 rfl) ?_
              have hz40 : HoQ y K dr nd j9 pc d9 (nI k2) := (Or.inr ⟨k2, by omega, rfl, ⟨by omega, by omega⟩, hin, Or.inr ⟨c7, hc7, hcl, h36.mp (by omega)⟩⟩)
              have hO : OKP G h0 a (upd (upd (upd F 5 (nI cs)) 6 (nI rg)) 20 (nI pc)) (updR (updR R 5 (.ref pq)) 6 (.ref (it j9))) Z B J K w := hO.to rfl
              exact W.iret (v := (nI k2)) hx hb hr (fun t99 ht99 hW99 => ⟨⟨_, (w, (nI k2)), rfl, ⟨rfl, hz40, hO⟩, by rw [ht99]; exact hP, hD⟩, hS.F ht99⟩) hS.2.2 dX5_handlerOf_61
  have hO : OKP G h0 a (upd (upd (upd F 5 (nI cs)) 6 (nI rg)) 20 (nI pc)) (updR (updR R 5 (.ref pq)) 6 (.ref (it j9))) Z B J K w := hO.to rfl
  exact loop_r ((yr1 y j9) + 1) (yr0 y j9) _ _ _ _ (by omega) (by omega) (by omega) hP hD hS hO (lv_sub hl [0, 2, 1] rfl)

set_option maxHeartbeats 60000000 in
set_option maxRecDepth 100000 in
theorem N_judgeNames (l : Launch) (G : pT) (h0 : Nat) (a : Nat → Nat) (F : Nat → Int32) (R : Nat → Value) (Z : Int64) (B : Nat → Nat → Int32) (J : Nat → Nat → Int64) (K : PK) (w : va_W) (pq : Nat) (dr : Nat) (ml : Nat) (nd : Nat) (nm : Nat) (cp : Nat) (it : Nat → Nat) (s9 : Nat) (sz : Nat) (g : Nat → Nat → Nat) (hsz : sz ≤ 5000) (hwp : WPr G K g) (hps : PgS G K g (a 1) pq dr ml nd nm cp it s9) (hs9 : s9 ≤ 5000) (hfu : FuO G K) (hO : OKP G h0 a (upd F 2 (nI sz)) R Z B J K w) (hl0 : l.stackTraces = false) : PBn l G pX0 yX9_judgeNames cX9_judgeNames 2 none ({ frames := 10, cells := (37 * s9 + 10), slots := (37 * (80 + 8 * s9) + 15 * s9 + 2010), locals := 237 }) [.ref pq] w (fun (v : Option Value) (u : va_W × (PK × (Nat → Nat) × (Nat → Int32) × PK × (Nat → Int64))) => v = none ∧ (WPr G u.2.1 g) ∧ (PgT G u.2.1 g (a 1) pq dr ml nd nm cp it s9) ∧ (RkO u.2.1 u.2.2.1) ∧ (JnQ G u.2.2.2.2.1 u.2.1 g dr nd (B 9) (B 10) (B 7) sz u.2.2.2.1 u.2.2.2.2.2) ∧ (JnX K u.2.2.2.2.1 pq) ∧ (OKP G h0 a (upd F 2 (nI sz)) R Z (updA B 11 u.2.2.2.1) J u.2.1 u.1)) (fun u => u.1) (fun (u : va_W × (PK × (Nat → Nat) × (Nat → Int32) × PK × (Nat → Int64))) => (37 * s9)) (fun (u : va_W × (PK × (Nat → Nat) × (Nat → Int32) × PK × (Nat → Int64))) => (37 * (80 + 8 * s9))) (fun (u : va_W × (Nat → Int32) × (Nat → Value) × (Nat → Nat → Int32)) => ThQ G h0 a (upd F 2 (nI sz)) R Z B J u) (fun u => u.1) := by
  intro sz
  refine vx_ofW (cc := cX9_judgeNames) (maxL := 2) (ret := none) (by decide) rfl ?_
  intro p e s m args below meth c s₁ B9 hml hnt hv
  obtain ⟨rfl, hsz, hP, hD0, hE, hX⟩ := hv
  have hx := B9.exec
  have hb := B9.bytes
  have hr := B9.returns
  have hts := atoms_spec (ws := Cond.code yX9_judgeNames cX9_judgeNames 2 none :: pw) B9.pre
  have hq : ∀ w ∈ pw, w.before _ s = true := fun w h => hts w (List.mem_cons_of_mem _ h)
  have hown : s.vm.findClass RX9 = some m.cls := findClass_of_methodNamed B9.named
  have hlocks := B9.notSynchronized
  subst hsz
  have hD := hD0.self (sz := s.heap.size)
  have hA : ∀ q : Nat, s.heap.size ≤ q → va_A w s.heap.size q := fun q h => Or.inr h
  generalize va_A w s.heap.size = A at hD hE hA ⊢
  have hS : va_S A s.heap s.heap [] := va_S.rf
  have hl := lv_entry ([.ref pq]) (n := 2) (Nat.le_of_ble_eq_true rfl)
  rw [lg_entry_eq]
  generalize (lg_sl ([.ref pq]) ++ List.replicate (2 - (lg_sl ([.ref pq])).length) Slot.unset).toArray = ls at hl ⊢
  have hl : lv_has ls 2 [(0, .ref pq)] := hl
  have hp01 := hps.1
  have hp1 := hp01.1
  have hp2 := hp01.2.1
  have hp3 := hp01.2.2.1
  have hp4 := hp01.2.2.2.1
  have hp5 := hp01.2.2.2.2.1
  have hp6 := hp01.2.2.2.2.2.1
  have hp8 := hp01.2.2.2.2.2.2.2.1
  have hp9 := hp01.2.2.2.2.2.2.2.2
  refine lv_aload_n hx hb dX9_judgeNames_0 rfl (lv_at hl 0 rfl) ?_
  have hO : OKP G h0 a (upd (upd F 2 (nI sz)) 2 (nI sz)) R Z B J K w := hO.to rfl
  obtain ⟨qr4, hqr5⟩ := p_recv hO (by rw [hp1]; decide) (rep_7 hp1)
  refine pc_V0 (G := G) (As := []) (rest := []) hx hb hml hown hq hE hX pX0_al hP hD hS hA hl.1 (N_firstRound l G h0 a (upd F 2 (nI sz)) R Z B J K w pq dr ml nd nm cp it s9 sz g (by omega) hwp hps.t hO) (gV pw_1187 pw_1188 pw_1189 pw_106 pw_1128) hV_X9_firstRound qr4 6 hqr5 rfl rfl rfl (Nat.le_of_ble_eq_true rfl) dX9_judgeNames_1 ⟨(by show 0 + 0 ≤ (37 * s9 + 10); omega), (by show 0 + 0 ≤ (37 * (80 + 8 * s9) + 15 * s9 + 2010); omega)⟩ ⟨Nat.le_of_ble_eq_true rfl, Nat.le_of_ble_eq_true rfl⟩ (fun v3 u1 H locs hw2 hP hD hS => ?_)
  obtain ⟨w, K6⟩ := u1
  obtain ⟨hw2, h7, h8, hO⟩ := hw2
  have h7 : LgK K K6 pq := h7
  have h8 : Cln K6 pq → Cln K pq ∧ (Rd1 G K dr nd ((B 9)) ((B 10)) sz) := h8
  obtain rfl : v3 = none := hw2
  have hO : OKP G h0 a (upd F 2 (nI sz)) R Z B J K6 w := hO.to rfl
  refine W.widen (k := 0) (n := 0) (Nat.le_of_ble_eq_true rfl) (Nat.le_of_ble_eq_true rfl) ?_
  refine W.eq (g2 := F0 m 4 ls []) rfl ?_
  have hwq9 := LgK.wp h7 hwp
  have hpq10 := LgK.ps h7 hps.t
  have hps11 := LgK.pss h7 hps
  have hpx12 := hpq10.1
  have hp1 := hpx12.1
  have hp2 := hpx12.2.1
  have hp3 := hpx12.2.2.1
  have hp4 := hpx12.2.2.2.1
  have hp5 := hpx12.2.2.2.2.1
  have hp6 := hpx12.2.2.2.2.2.1
  have hp8 := hpx12.2.2.2.2.2.2.2.1
  have hp9 := hpx12.2.2.2.2.2.2.2.2
  refine lv_aload_n hx hb dX9_judgeNames_4 rfl (lv_at hl 0 rfl) ?_
  have hO : OKP G h0 a (upd (upd F 2 (nI sz)) 2 (nI sz)) R Z B J K6 w := hO.to rfl
  obtain ⟨qr16, hqr17⟩ := p_recv hO (by rw [hp1]; decide) (rep_7 hp1)
  refine pn_V0 (G := G) (As := []) (rest := []) hx hb hml hown hq hE hX pX0_al hP hD hS hA hl.1 (G_settle l G h0 a (upd F 2 (nI sz)) R Z B J K6 w pq dr ml nd sz g (by omega) hpq10.1 hO hl0) (gV pw_1190 pw_1191 pw_1192 pw_106 pw_1129) hV_X9_settle qr16 6 hqr17 rfl rfl rfl (Nat.le_of_ble_eq_true rfl) dX9_judgeNames_5 ⟨(by show 0 + 1 ≤ (37 * s9 + 10); omega), (by show 0 + 6 ≤ (37 * (80 + 8 * s9) + 15 * s9 + 2010); omega)⟩ ⟨Nat.le_of_ble_eq_true rfl, Nat.le_of_ble_eq_true rfl⟩ (fun v15 u13 H locs hw14 hP hD hS => ?_) (fun ux ce9 q9 H9 locs9 hux hP9 hD9 hS9 hce hcv hcl => pb_out ux (ThQ.up (Thx.same Thx.rfl rfl) RhX.rfl hux) hnt hlocks hce hcv hcl hP9 hD9 hS9 (by show 0 + 1 ≤ (37 * s9 + 10); omega) (by show 0 + 6 ≤ (37 * (80 + 8 * s9) + 15 * s9 + 2010); omega))
  obtain ⟨w, _⟩ := u13
  obtain ⟨hw14, h18, hO⟩ := hw14
  have h18 : K6.2.1 25 pq = 2147483647 := h18
  obtain rfl : v15 = none := hw14
  have hO : OKP G h0 a (upd F 2 (nI sz)) R Z B J K6 w := hO.to rfl
  refine W.widen (k := 0) (n := 0) (by show 0 + 0 ≤ 0; omega) (by show 0 + 0 ≤ 0; omega) ?_
  refine W.eq (g2 := F0 m 8 ls []) rfl ?_
  have hR1 : Rd1 G K6 dr nd (B 9) (B 10) sz := LgK.rd1 (LgK.sy h7) (h8 h18).2
  have hfuA : FuO G K6 := LgK.fuo (LgK.sy h7) hfu
  refine lv_aload_n hx hb dX9_judgeNames_8 rfl (lv_at hl 0 rfl) ?_
  have hO : OKP G h0 a (upd (upd F 2 (nI sz)) 2 (nI sz)) R Z B J K6 w := hO.to rfl
  obtain ⟨qr22, hqr23⟩ := p_recv hO (by rw [hp1]; decide) (rep_7 hp1)
  refine pc_V0 (G := G) (As := []) (rest := []) hx hb hml hown hq hE hX pX0_al hP hD hS hA hl.1 (N_resolveTypes l G h0 a (upd F 2 (nI sz)) R Z B J K6 w pq dr ml nd sz g hpq10.1 (by omega) hpq10.2.1 hO) (gV pw_1193 pw_1194 pw_1195 pw_106 pw_1137) hV_X9_resolveTypes qr22 6 hqr23 rfl rfl rfl (Nat.le_of_ble_eq_true rfl) dX9_judgeNames_9 ⟨(by show 0 + 0 ≤ (37 * s9 + 10); omega), (by show 0 + 0 ≤ (37 * (80 + 8 * s9) + 15 * s9 + 2010); omega)⟩ ⟨Nat.le_of_ble_eq_true rfl, Nat.le_of_ble_eq_true rfl⟩ (fun v21 u19 H locs hw20 hP hD hS => ?_)
  obtain ⟨w, f24⟩ := u19
  obtain ⟨hw20, h25, hO⟩ := hw20
  have h25 : TyX K6 dr nd ((B 9)) ((B 10)) ((B 7)) sz f24 := h25
  obtain rfl : v21 = none := hw20
  have hO : OKP G h0 a (upd F 2 (nI sz)) R Z (updA B 11 f24) J K6 w := hO.to rfl
  refine W.widen (k := 0) (n := 0) (Nat.le_of_ble_eq_true rfl) (Nat.le_of_ble_eq_true rfl) ?_
  refine W.eq (g2 := F0 m 12 ls []) rfl ?_
  have hTX : TyX K6 dr nd (B 9) (B 10) (B 7) sz f24 := h25
  refine lv_aload_n hx hb dX9_judgeNames_12 rfl (lv_at hl 0 rfl) ?_
  have hln26 := LyN.start hps11.pn
  have hO : OKP G h0 a (upd (upd F 2 (nI sz)) 2 (nI sz)) R Z (updA B 11 f24) J K6 w := hO.to rfl
  obtain ⟨qr30, hqr31⟩ := p_recv hO (by rw [hp1]; decide) (rep_7 hp1)
  refine pc_V0 (G := G) (As := []) (rest := []) hx hb hml hown hq hE hX pX0_al hP hD hS hA hl.1 (N_link l G h0 a (upd F 2 (nI sz)) R Z (updA B 11 f24) J K6 w pq dr ml nd nm cp it s9 sz g (B 10) (by omega) hwq9 hps11 hR1 hO) (gV pw_1196 pw_1197 pw_1198 pw_106 pw_1140) hV_X9_link qr30 6 hqr31 rfl rfl rfl (Nat.le_of_ble_eq_true rfl) dX9_judgeNames_13 ⟨(by show 0 + 0 ≤ (37 * s9 + 10); omega), (by show 0 + 0 ≤ (37 * (80 + 8 * s9) + 15 * s9 + 2010); omega)⟩ ⟨Nat.le_of_ble_eq_true rfl, Nat.le_of_ble_eq_true rfl⟩ (fun v29 u27 H locs hw28 hP hD hS => ?_)
  obtain ⟨w, K32, ab33⟩ := u27
  obtain ⟨hw28, h34, h35, h36, h37, h38, h39, h40, h41, h42, hO⟩ := hw28
  have h34 : LkX K6 K32 := h34
  have h35 : WPr G K32 g := h35
  have h36 : PgT G K32 g (a 1) pq dr ml nd nm cp it s9 := h36
  have h37 : AbF K32 dr nd ab33 := h37
  have h38 : PaB K32 dr nd ab33 := h38
  have h39 : WCl ab33 nd nd := h39
  have h40 : Bi0 ab33 7 := h40
  have h41 : CAb K32 dr nd ab33 nd := h41
  have h42 : PaX K32 dr nd nd := h42
  obtain rfl : v29 = none := hw28
  have hO : OKP G h0 a (upd F 2 (nI sz)) R Z (updA B 11 f24) J K32 w := hO.to rfl
  refine W.widen (k := 0) (n := 0) (Nat.le_of_ble_eq_true rfl) (Nat.le_of_ble_eq_true rfl) ?_
  refine W.eq (g2 := F0 m 16 ls []) rfl ?_
  have hln43 := LyN.lk hln26 h34
  have hpx44 := h36.1
  have hp1 := hpx44.1
  have hp2 := hpx44.2.1
  have hp3 := hpx44.2.2.1
  have hp4 := hpx44.2.2.2.1
  have hp5 := hpx44.2.2.2.2.1
  have hp6 := hpx44.2.2.2.2.2.1
  have hp8 := hpx44.2.2.2.2.2.2.2.1
  have hp9 := hpx44.2.2.2.2.2.2.2.2
  refine lv_bipush (v := 7) hx hb dX9_judgeNames_16 (by decide) ?_
  refine lv_istore_n (lv' := [(1, .int 7), (0, .ref pq)]) hx hb dX9_judgeNames_18 rfl hl (by decide) rfl (fun ls hl => ?_)
  have loop_2 : ∀ (n_2 : Nat) (i2 : Nat) (K2 : PK) (H : Heap) (locs : List Loc) (ls : Array Slot) (w : va_W), i2 ≤ nd → nd + 1 ≤ i2 + n_2 → (LgK K32 K2 pq) → (RgQ K2 pq ab33 i2) → va_P G.1 pCl w H → va_D A w → va_S A s.heap H locs → OKP G h0 a (upd F 2 (nI sz)) R Z (updA B 11 f24) J K2 w → lv_has ls 2 [(1, .int (nI i2)), (0, .ref pq)] → W p l e (headSpec (Cond.code yX9_judgeNames cX9_judgeNames 2 none :: pw) ({ frames := 10, cells := (37 * s9 + 10), slots := (37 * (80 + 8 * s9) + 15 * s9 + 2010), locals := 237 } : Room)).room s m ([.ref pq] : List Value).toArray below meth c H locs 0 0 (vx_MQ below (pQn G A (fun (v : Option Value) (u : va_W × (PK × (Nat → Nat) × (Nat → Int32) × PK × (Nat → Int64))) => v = none ∧ (WPr G u.2.1 g) ∧ (PgT G u.2.1 g (a 1) pq dr ml nd nm cp it s9) ∧ (RkO u.2.1 u.2.2.1) ∧ (JnQ G u.2.2.2.2.1 u.2.1 g dr nd (B 9) (B 10) (B 7) sz u.2.2.2.1 u.2.2.2.2.2) ∧ (JnX K u.2.2.2.2.1 pq) ∧ (OKP G h0 a (upd F 2 (nI sz)) R Z (updA B 11 u.2.2.2.1) J u.2.1 u.1)) (fun u => u.1) (fun (u : va_W × (PK × (Nat → Nat) × (Nat → Int32) × PK × (Nat → Int64))) => (37 * s9)) (fun (u : va_W × (PK × (Nat → Nat) × (Nat → Int32) × PK × (Nat → Int64))) => (37 * (80 + 8 * s9)))) (pXX G A (fun (u : va_W × (Nat → Int32) × (Nat → Value) × (Nat → Nat → Int32)) => ThQ G h0 a (upd F 2 (nI sz)) R Z B J u) (fun u => u.1)) ([.ref pq] : List Value).toArray s ({ frames := 10, cells := (37 * s9 + 10), slots := (37 * (80 + 8 * s9) + 15 * s9 + 2010), locals := 237 } : Room).cells ({ frames := 10, cells := (37 * s9 + 10), slots := (37 * (80 + 8 * s9) + 15 * s9 + 2010), locals := 237 } : Room).slots A) (F0 m 19 ls []) := by
    intro n_2
    induction n_2 with
    | zero => intro i2 K2 H locs ls w hk_2 hn_2; omega
    | succ n_2 ih_2 =>
      intro i2 K2 H locs ls w hk_2 hn_2 hlg2 hrg2 hP hD hS hO hl
      have hwz2 := LgK.wp hlg2 h35
      have hpz2 := LgK.ps hlg2 h36
      have hpx45 := hpz2.1
      have hp1 := hpx45.1
      have hp2 := hpx45.2.1
      have hp3 := hpx45.2.2.1
      have hp4 := hpx45.2.2.2.1
      have hp5 := hpx45.2.2.2.2.1
      have hp6 := hpx45.2.2.2.2.2.1
      have hp8 := hpx45.2.2.2.2.2.2.2.1
      have hp9 := hpx45.2.2.2.2.2.2.2.2
      refine lv_iload_n hx hb dX9_judgeNames_19 rfl (lv_at hl 0 rfl) ?_
      refine lv_aload_n hx hb dX9_judgeNames_20 rfl (lv_at hl 1 rfl) ?_
      refine p_get (v := .int (nI nd)) (C := RX9) (Tc := TX9) (N := 5) (ci := 6) hx hb hq pin_wsX90 hown hE hP hO (by rw [hp1]; decide) (rep_7 hp1) rfl 2 (by decide) (hq _ pw_14) (fun _ h9 => h9) (congrArg (fun z => some (Value.int z)) hp8) dX9_judgeNames_21 ?_
      refine lv_icmp_ge (tgt := 57) hx hb dX9_judgeNames_24 (by decide) (fun c46 => ?_) (fun c46 => ?_)
      · have n47 : nd ≤ i2 := (nI_leI (a := nd) (b := i2) (by omega) (by omega)).mp c46
        refine lv_aload_n hx hb dX9_judgeNames_57 rfl (lv_at hl 1 rfl) ?_
        have hO : OKP G h0 a (upd (upd F 2 (nI sz)) 2 (nI sz)) R Z (updA B 11 f24) J K2 w := hO.to rfl
        obtain ⟨qr51, hqr52⟩ := p_recv hO (by rw [hp1]; decide) (rep_7 hp1)
        refine pn_V0 (G := G) (As := []) (rest := []) hx hb hml hown hq hE hX pX0_al hP hD hS hA hl.1 (G_settle l G h0 a (upd F 2 (nI sz)) R Z (updA B 11 f24) J K2 w pq dr ml nd sz g (by omega) hpz2.1 hO hl0) (gV pw_1190 pw_1191 pw_1192 pw_106 pw_1129) hV_X9_settle qr51 6 hqr52 rfl rfl rfl (Nat.le_of_ble_eq_true rfl) dX9_judgeNames_58 ⟨(by show 0 + 1 ≤ (37 * s9 + 10); omega), (by show 0 + 6 ≤ (37 * (80 + 8 * s9) + 15 * s9 + 2010); omega)⟩ ⟨Nat.le_of_ble_eq_true rfl, Nat.le_of_ble_eq_true rfl⟩ (fun v50 u48 H locs hw49 hP hD hS => ?_) (fun ux ce9 q9 H9 locs9 hux hP9 hD9 hS9 hce hcv hcl => pb_out ux (ThQ.up (Thx.same (Thx.b Thx.rfl (by omega) (by decide)) rfl) RhX.rfl hux) hnt hlocks hce hcv hcl hP9 hD9 hS9 (by show 0 + 1 ≤ (37 * s9 + 10); omega) (by show 0 + 6 ≤ (37 * (80 + 8 * s9) + 15 * s9 + 2010); omega))
        obtain ⟨w, _⟩ := u48
        obtain ⟨hw49, h53, hO⟩ := hw49
        have h53 : K2.2.1 25 pq = 2147483647 := h53
        obtain rfl : v50 = none := hw49
        have hO : OKP G h0 a (upd F 2 (nI sz)) R Z (updA B 11 f24) J K2 w := hO.to rfl
        refine W.widen (k := 0) (n := 0) (by show 0 + 0 ≤ 0; omega) (by show 0 + 0 ≤ 0; omega) ?_
        refine W.eq (g2 := F0 m 61 ls []) rfl ?_
        have hirr : ∀ k : Nat, 7 ≤ k → k < nd → ¬ bitL (ab33 k) k := fun k h1 h2 => hrg2 h53 k h1 (by omega)
        have hrkl := RkO.mk h37 h38 h39 h40 h36.a h36.2.1 (by omega) hirr
        have hrk2 := LgK.rko hlg2 hrkl
        have hln2 := LyN.lg hln43 hlg2
        refine lv_aload_n hx hb dX9_judgeNames_61 rfl (lv_at hl 1 rfl) ?_
        have hO : OKP G h0 a (upd (upd F 2 (nI sz)) 2 (nI sz)) R Z (updA B 11 f24) J K2 w := hO.to rfl
        obtain ⟨qr57, hqr58⟩ := p_recv hO (by rw [hp1]; decide) (rep_7 hp1)
        refine pc_V0 (G := G) (As := []) (rest := []) hx hb hml hown hq hE hX pX0_al hP hD hS hA hl.1 (N_thirdRound l G h0 a (upd F 2 (nI sz)) R Z (updA B 11 f24) J K2 w pq dr ml nd nm cp it s9 sz g (fun q => cntB (K32.2.2.2.1 q) nd) (by omega) hwz2 hpz2 hrk2 hO) (gV pw_1199 pw_1200 pw_1201 pw_106 pw_1162) hV_X9_thirdRound qr57 6 hqr58 rfl rfl rfl (Nat.le_of_ble_eq_true rfl) dX9_judgeNames_62 ⟨(by show 0 + 0 ≤ (37 * s9 + 10); omega), (by show 0 + 0 ≤ (37 * (80 + 8 * s9) + 15 * s9 + 2010); omega)⟩ ⟨Nat.le_of_ble_eq_true rfl, Nat.le_of_ble_eq_true rfl⟩ (fun v56 u54 H locs hw55 hP hD hS => ?_)
        obtain ⟨w, K59⟩ := u54
        obtain ⟨hw55, h60, h61, hO⟩ := hw55
        have h60 : LgK K2 K59 pq := h60
        have h61 : Cln K59 pq → Cln K2 pq ∧ (Rd3 G K2 dr nd (f24) sz) := h61
        obtain rfl : v56 = none := hw55
        have hO : OKP G h0 a (upd F 2 (nI sz)) R Z (updA B 11 f24) J K59 w := hO.to rfl
        refine W.widen (k := 0) (n := 0) (Nat.le_of_ble_eq_true rfl) (Nat.le_of_ble_eq_true rfl) ?_
        refine W.eq (g2 := F0 m 65 ls []) rfl ?_
        have hwq62 := LgK.wp h60 hwz2
        have hpq63 := LgK.ps h60 hpz2
        have hrk64 := LgK.rko h60 hrk2
        have hln65 := LyN.lg hln2 h60
        have hpx66 := hpq63.1
        have hp1 := hpx66.1
        have hp2 := hpx66.2.1
        have hp3 := hpx66.2.2.1
        have hp4 := hpx66.2.2.2.1
        have hp5 := hpx66.2.2.2.2.1
        have hp6 := hpx66.2.2.2.2.2.1
        have hp8 := hpx66.2.2.2.2.2.2.2.1
        have hp9 := hpx66.2.2.2.2.2.2.2.2
        refine lv_aload_n hx hb dX9_judgeNames_65 rfl (lv_at hl 1 rfl) ?_
        have hO : OKP G h0 a (upd (upd F 2 (nI sz)) 2 (nI sz)) R Z (updA B 11 f24) J K59 w := hO.to rfl
        obtain ⟨qr70, hqr71⟩ := p_recv hO (by rw [hp1]; decide) (rep_7 hp1)
        refine pn_V0 (G := G) (As := []) (rest := []) hx hb hml hown hq hE hX pX0_al hP hD hS hA hl.1 (G_settle l G h0 a (upd F 2 (nI sz)) R Z (updA B 11 f24) J K59 w pq dr ml nd sz g (by omega) hpq63.1 hO hl0) (gV pw_1190 pw_1191 pw_1192 pw_106 pw_1129) hV_X9_settle qr70 6 hqr71 rfl rfl rfl (Nat.le_of_ble_eq_true rfl) dX9_judgeNames_66 ⟨(by show 0 + 1 ≤ (37 * s9 + 10); omega), (by show 0 + 6 ≤ (37 * (80 + 8 * s9) + 15 * s9 + 2010); omega)⟩ ⟨Nat.le_of_ble_eq_true rfl, Nat.le_of_ble_eq_true rfl⟩ (fun v69 u67 H locs hw68 hP hD hS => ?_) (fun ux ce9 q9 H9 locs9 hux hP9 hD9 hS9 hce hcv hcl => pb_out ux (ThQ.up (Thx.same (Thx.b Thx.rfl (by omega) (by decide)) rfl) RhX.rfl hux) hnt hlocks hce hcv hcl hP9 hD9 hS9 (by show 0 + 1 ≤ (37 * s9 + 10); omega) (by show 0 + 6 ≤ (37 * (80 + 8 * s9) + 15 * s9 + 2010); omega))
        obtain ⟨w, _⟩ := u67
        obtain ⟨hw68, h72, hO⟩ := hw68
        have h72 : K59.2.1 25 pq = 2147483647 := h72
        obtain rfl : v69 = none := hw68
        have hO : OKP G h0 a (upd F 2 (nI sz)) R Z (updA B 11 f24) J K59 w := hO.to rfl
        refine W.widen (k := 0) (n := 0) (by show 0 + 0 ≤ 0; omega) (by show 0 + 0 ≤ 0; omega) ?_
        refine W.eq (g2 := F0 m 69 ls []) rfl ?_
        have hlgZ : LgK K32 K59 pq := LgK.trans hlg2 h60
        have hR3 : Rd3 G K59 dr nd f24 sz := LgK.rd3 (LgK.sy h60) (h61 h72).2
        have hR10 : Rd1 G K59 dr nd (B 9) (B 10) sz := LgK.rd1 (LgK.sy hlgZ) (LkX.rd1 (LkX.sy h34) hR1)
        have hTX0 : TyX K59 dr nd (B 9) (B 10) (B 7) sz f24 := LgK.tyx (LgK.sy hlgZ) (LkX.tyx (LkX.sy h34) hTX)
        have hfu0 : FuO G K59 := LgK.fuo (LgK.sy hlgZ) (LkX.fuo (LkX.sy h34) hfuA)
        have hAB0 : AbF K59 dr nd ab33 ∧ PaB K59 dr nd ab33 ∧ WCl ab33 nd nd ∧ Bi0 ab33 7 ∧ CAb K59 dr nd ab33 nd ∧ PaX K59 dr nd nd ∧ ∀ k : Nat, 7 ≤ k → k < nd → ¬ bitL (ab33 k) k := ⟨LgK.abf (LgK.sy hlgZ) h37, LgK.pab (LgK.sy hlgZ) h38, h39, h40, LgK.cab (LgK.sy hlgZ) h41, LgK.pax (LgK.sy hlgZ) h42, hirr⟩
        have hjx0 : JnX K K59 pq := JnX.of h7 h34 hlgZ
        refine lv_aload_n hx hb dX9_judgeNames_69 rfl (lv_at hl 1 rfl) ?_
        have hly0 : LyB G K59 g (fun q => cntB (K32.2.2.2.1 q) nd) (fz K59 dr 8) (fz K59 dr 9) (K59.2.2.2.2.1 dr) (a 1) pq dr ml nd nm cp it s9 0 := ⟨hwq62, hpq63, hrk64, fun j hj => ⟨rfl, rfl⟩, rfl, hln65⟩
        have hO : OKP G h0 a (upd (upd F 2 (nI sz)) 2 (nI sz)) R Z (updA B 11 f24) J K59 w := hO.to rfl
        obtain ⟨qr76, hqr77⟩ := p_recv hO (by rw [hp1]; decide) (rep_7 hp1)
        refine pn_V0 (G := G) (As := []) (rest := []) hx hb hml hown hq hE hX pX0_al hP hD hS hA hl.1 (N_layOut l G h0 a (upd F 2 (nI sz)) R Z (updA B 11 f24) J K59 w pq dr ml nd nm cp it s9 sz (80 + 8 * s9) (fun q => cntB (K32.2.2.2.1 q) nd) (fz K59 dr 8) (fz K59 dr 9) (K59.2.2.2.2.1 dr) g (by omega) hly0 hs9 rfl hfu0 hO hl0) (gV pw_1202 pw_1203 pw_1204 pw_106 pw_1186) hV_X9_layOut qr76 6 hqr77 rfl rfl rfl (Nat.le_of_ble_eq_true rfl) dX9_judgeNames_70 ⟨(by show 0 + (37 * s9 + 5) ≤ (37 * s9 + 10); omega), (by show 0 + (37 * (80 + 8 * s9) + 15 * s9 + 2000) ≤ (37 * (80 + 8 * s9) + 15 * s9 + 2010); omega)⟩ ⟨Nat.le_of_ble_eq_true rfl, Nat.le_of_ble_eq_true rfl⟩ (fun v75 u73 H locs hw74 hP hD hS => ?_) (fun ux ce9 q9 H9 locs9 hux hP9 hD9 hS9 hce hcv hcl => pb_out ux (ThQ.up (Thx.same (Thx.b Thx.rfl (by omega) (by decide)) rfl) RhX.rfl hux) hnt hlocks hce hcv hcl hP9 hD9 hS9 (by show 0 + (37 * s9 + 5) ≤ (37 * s9 + 10); omega) (by show 0 + (37 * (80 + 8 * s9) + 15 * s9 + 2000) ≤ (37 * (80 + 8 * s9) + 15 * s9 + 2010); omega))
        obtain ⟨w, K78⟩ := u73
        obtain ⟨hw74, h79, h80, h81, h82, h83, hO⟩ := hw74
        have h79 : LyB G K78 g (fun q => cntB (K32.2.2.2.1 q) nd) (fz K59 dr 8) (fz K59 dr 9) (K59.2.2.2.2.1 dr) (a 1) pq dr ml nd nm cp it s9 nd := h79
        have h80 : LyS g K59 K78 := h80
        have h81 : SlA G K59 K78 dr nd := h81
        have h82 : KnA G K59 K78 dr nd nd := h82
        have h83 : RsA G K59 K78 dr (f24) sz nd := h83
        obtain rfl : v75 = none := hw74
        have hO : OKP G h0 a (upd F 2 (nI sz)) R Z (updA B 11 f24) J K78 w := hO.to rfl
        refine W.widen (k := (37 * s9)) (n := (37 * (80 + 8 * s9))) (by show 0 + (37 * s9) ≤ (37 * s9); omega) (by show 0 + (37 * (80 + 8 * s9)) ≤ (37 * (80 + 8 * s9)); omega) ?_
        refine W.eq (g2 := F0 m 73 ls []) rfl ?_
        have hJn : JnQ G K59 K78 g dr nd (B 9) (B 10) (B 7) sz f24 ab33 := ⟨⟨hwq62, hpq63.2.1, hpq63.a, h80⟩, hAB0, ⟨hR10, hTX0, hR3⟩, h81, h82, h83⟩
        refine W_size (fun hz1 hz2 => ?_)
        refine vx_ret ?_
        have hz84 : WPr G K78 g := h79.1
        have hz85 : PgT G K78 g (a 1) pq dr ml nd nm cp it s9 := h79.2.1
        have hz86 : RkO K78 (fun q => cntB (K32.2.2.2.1 q) nd) := h79.2.2.1
        have hz87 : JnQ G K59 K78 g dr nd (B 9) (B 10) (B 7) sz f24 ab33 := hJn
        have hz88 : JnX K K59 pq := hjx0
        have hO : OKP G h0 a (upd F 2 (nI sz)) R Z (updA B 11 f24) J K78 w := hO.to rfl
        refine W.widen (k := (37 * s9 + 10)) (n := (37 * (80 + 8 * s9) + 15 * s9 + 2010)) (by omega) (by omega) ?_
        have hzz1 : H.size ≤ s.heap.size + ((37 * s9)) := (by have z : (37 * s9) ≤ (37 * s9) := (by omega); omega)
        have hzz2 : hSl H ≤ hSl s.heap + ((37 * (80 + 8 * s9))) := (by have z : (37 * (80 + 8 * s9)) ≤ (37 * (80 + 8 * s9)) := (by omega); omega)
        exact W.vret hx hb hr (fun t99 ht99 hW99 => ⟨⟨_, (w, (K78, (fun q => cntB (K32.2.2.2.1 q) nd), f24, K59, ab33)), rfl, ⟨rfl, hz84, hz85, hz86, hz87, hz88, hO⟩, by rw [ht99]; exact hP, hD, by rw [ht99]; exact hzz1, by rw [ht99]; exact hzz2⟩, hS.F ht99⟩) hS.2.2 dX9_judgeNames_73
      · have n89 : ¬ (nd ≤ i2) := fun h9 => c46 ((nI_leI (a := nd) (b := i2) (by omega) (by omega)).mpr h9)
        refine lv_aload_n hx hb dX9_judgeNames_27 rfl (lv_at hl 1 rfl) ?_
        refine lv_iload_n hx hb dX9_judgeNames_28 rfl (lv_at hl 0 rfl) ?_
        refine lv_iload_n hx hb dX9_judgeNames_29 rfl (lv_at hl 0 rfl) ?_
        have hO : OKP G h0 a (upd F 2 (nI sz)) R Z (updA B 11 f24) J K2 w := hO.to rfl
        obtain ⟨qr93, hqr94⟩ := p_recv hO (by rw [hp1]; decide) (rep_7 hp1)
        refine pc_V0 (G := G) (As := [.int (nI i2), .int (nI i2)]) (rest := []) hx hb hml hown hq hE hX pX0_al hP hD hS hA hl.1 (G_isAbove l G h0 a (upd F 2 (nI sz)) R Z (updA B 11 f24) J K2 w pq dr ml nd (nI i2) (nI i2) g hpz2.1 hpz2.2.1 hO) (gV pw_107 pw_108 pw_109 pw_106 pw_101) hV_X9_isAbove qr93 6 hqr94 rfl rfl rfl (Nat.le_of_ble_eq_true rfl) dX9_judgeNames_30 ⟨(by show 0 + 0 ≤ (37 * s9 + 10); omega), (by show 0 + 0 ≤ (37 * (80 + 8 * s9) + 15 * s9 + 2010); omega)⟩ ⟨Nat.le_of_ble_eq_true rfl, Nat.le_of_ble_eq_true rfl⟩ (fun v92 u90 H locs hw91 hP hD hS => ?_)
        obtain ⟨w, r95⟩ := u90
        obtain ⟨hw91, h96, h97, hO⟩ := hw91
        have h96 : r95 ≤ 1 := h96
        have h97 : AbQ K2 dr nd (nI i2) (nI i2) r95 := h97
        obtain rfl : v92 = some (.int (nI r95)) := hw91
        have hO : OKP G h0 a (upd F 2 (nI sz)) R Z (updA B 11 f24) J K2 w := hO.to rfl
        refine W.widen (k := 0) (n := 0) (Nat.le_of_ble_eq_true rfl) (Nat.le_of_ble_eq_true rfl) ?_
        refine W.eq (g2 := F0 m 33 ls [.int (nI r95)]) rfl ?_
        obtain ⟨dR, heR, htR, hnR, hgR⟩ := h36.2.1 i2 (by omega)
        have heR2 : K2.2.2.2.2.1 dr i2 = some dR := by rw [LgK.E hlg2]; exact heR
        have hbr : r95 = 1 ↔ bitL (ab33 i2) i2 := by rw [← h37 i2 (by omega) dR heR, ← LgK.L hlg2]; exact h97 i2 i2 dR (by omega) (by omega) rfl rfl heR2
        refine lv_if_eq (tgt := 51) hx hb dX9_judgeNames_33 (by decide) (fun c98 => ?_) (fun c98 => ?_)
        · have n99 : r95 = 0 := (nI_eq (a := r95) (b := 0) (by omega) (by omega)).mp c98
          have hrg3 : RgQ K2 pq ab33 (i2 + 1) := fun hz k h1 h2 hb => by
            by_cases e : k = i2
            · subst e; have z := hbr.mpr hb; omega
            · exact hrg2 hz k h1 (by omega) hb
          refine lv_iinc (v := (nI (i2 + 1))) (lv' := [(1, .int (nI (i2 + 1))), (0, .ref pq)]) hx hb dX9_judgeNames_51 hl (k := 0) rfl (nI_1 i2) (by decide) rfl (fun ls hl => ?_)
          refine lv_goto (tgt := 19) hx hb dX9_judgeNames_54 (by decide) ?_
          have hO : OKP G h0 a (upd F 2 (nI sz)) R Z (updA B 11 f24) J K2 w := hO.to rfl
          exact ih_2 (i2 + 1) K2 _ _ _ _ (by omega) (by omega) hlg2 hrg3 hP hD hS hO (lv_sub hl [0, 1] rfl)
        · have n100 : ¬ (r95 = 0) := fun h9 => c98 ((nI_eq (a := r95) (b := 0) (by omega) (by omega)).mpr h9)
          refine lv_aload_n hx hb dX9_judgeNames_36 rfl (lv_at hl 1 rfl) ?_
          refine lv_bipush (v := 6) hx hb dX9_judgeNames_37 (by decide) ?_
          refine lv_aload_n hx hb dX9_judgeNames_39 rfl (lv_at hl 1 rfl) ?_
          refine p_get (v := .ref dr) (C := RX9) (Tc := TX9) (N := 5) (ci := 6) hx hb hq pin_wsX90 hown hE hP hO (by rw [hp1]; decide) (rep_7 hp1) rfl 1 (by decide) (hq _ pw_15) (fun _ h9 => h9) (congrArg (fun z => some (va_rf z)) hp3) dX9_judgeNames_40 ?_
          refine lv_iload_n hx hb dX9_judgeNames_43 rfl (lv_at hl 0 rfl) ?_
          refine p_ald8 hx hb hE hP hO hp4 (vp_in_nI (by omega) (by omega)) dX9_judgeNames_44 ?_
          rw [nI_clamp (show i2 < 2 ^ 31 by omega)]
          rw [heR2]
          have hf101 : K2.1 dR = 4 := (LgK.T hlg2 dR).trans htR
          refine W.eq (g2 := F0 m 45 ls [.ref dR, .int 6, .ref pq]) rfl ?_
          refine p_get (v := .int (K2.2.1 17 dR)) (C := RX2) (Tc := TX2) (N := 13) (ci := 2) hx hb hq pin_wsX20 hown hE hP hO (by rw [hf101]; decide) (rep_4 hf101) rfl 2 (by decide) (hq _ pw_1114) (fun _ h9 => h9) rfl dX9_judgeNames_45 ?_
          have hO : OKP G h0 a (upd (upd F 2 (nI sz)) 2 (nI sz)) R Z (updA B 11 f24) J K2 w := hO.to rfl
          obtain ⟨qr105, hqr106⟩ := p_recv hO (by rw [hp1]; decide) (rep_7 hp1)
          refine pc_V0 (G := G) (As := [.int 6, .int (K2.2.1 17 dR)]) (rest := []) hx hb hml hown hq hE hX pX0_al hP hD hS hA hl.1 (G_report l G h0 a (upd F 2 (nI sz)) R Z (updA B 11 f24) J K2 w pq dr ml nd nm cp it s9 6 (K2.2.1 17 dR) sz g (by omega) hwz2 hpz2 hO) (gV pw_1096 pw_1097 pw_1098 pw_106 pw_1084) hV_X9_report qr105 6 hqr106 rfl rfl rfl (Nat.le_of_ble_eq_true rfl) dX9_judgeNames_48 ⟨(by show 0 + 0 ≤ (37 * s9 + 10); omega), (by show 0 + 0 ≤ (37 * (80 + 8 * s9) + 15 * s9 + 2010); omega)⟩ ⟨Nat.le_of_ble_eq_true rfl, Nat.le_of_ble_eq_true rfl⟩ (fun v104 u102 H locs hw103 hP hD hS => ?_)
          obtain ⟨w, K107⟩ := u102
          obtain ⟨hw103, h108, h109, hO⟩ := hw103
          have h108 : LgK K2 K107 pq := h108
          have h109 : RpQ 6 K107 pq := h109
          obtain rfl : v104 = none := hw103
          have hO : OKP G h0 a (upd F 2 (nI sz)) R Z (updA B 11 f24) J K107 w := hO.to rfl
          refine W.widen (k := 0) (n := 0) (Nat.le_of_ble_eq_true rfl) (Nat.le_of_ble_eq_true rfl) ?_
          refine W.eq (g2 := F0 m 51 ls []) rfl ?_
          have hlg110 := LgK.trans hlg2 h108
          have hrg4 : RgQ K107 pq ab33 (i2 + 1) := fun hz => absurd hz (h109 rfl)
          refine lv_iinc (v := (nI (i2 + 1))) (lv' := [(1, .int (nI (i2 + 1))), (0, .ref pq)]) hx hb dX9_judgeNames_51 hl (k := 0) rfl (nI_1 i2) (by decide) rfl (fun ls hl => ?_)
          refine lv_goto (tgt := 19) hx hb dX9_judgeNames_54 (by decide) ?_
          have hO : OKP G h0 a (upd F 2 (nI sz)) R Z (updA B 11 f24) J K107 w := hO.to rfl
          exact ih_2 (i2 + 1) K107 _ _ _ _ (by omega) (by omega) hlg110 hrg4 hP hD hS hO (lv_sub hl [0, 1] rfl)
  have hO : OKP G h0 a (upd F 2 (nI sz)) R Z (updA B 11 f24) J K32 w := hO.to rfl
  exact loop_2 (nd + 1) 7 K32 _ _ _ _ (by omega) (by omega) LgK.rfl (fun _ k h1 h2 => absurd h2 (by omega)) hP hD hS hO (lv_sub hl [0, 1] rfl)

set_option maxHeartbeats 24000000 in
set_option maxRecDepth 100000 in
theorem Y_fieldBehind (l : Launch) (G : pT) (h0 : Nat) (a : Nat → Nat) (F : Nat → Int32) (R : Nat → Value) (Z : Int64) (B : Nat → Nat → Int32) (J : Nat → Nat → Int64) (K : PK) (w : va_W) (pq : Nat) (dr : Nat) (ml : Nat) (nd : Nat) (nm : Nat) (cp : Nat) (it : Nat → Nat) (s9 : Nat) (q : Nat) (mq : Nat) (cs : Nat) (vr : Nat) (sz : Nat) (n : Nat) (q1 : Nat) (g : Nat → Nat → Nat) (rk : Nat → Nat) (pb : PNb) (Ag : Nat → AS) (pd : Nat → Prop) (sl : Nat → Nat) (os : List Nat) (m9 : Nat) (sn : Nat) (lo : Nat) (hd : Nat) (c0 : Nat) (as9 : Int32) (okA : Prop) (hsz : sz ≤ 5000) (hwp : WPr G K g) (hps : PgT G K g (a 1) pq dr ml nd nm cp it s9) (hrk : RkO K rk) (hcs : cs ≤ 10000) (hvr : vr ≤ 30) (hng : Nng (B 18)) (hmq : K.1 mq = 3) (hqT : K.1 q = 1) (hqL : 1 ≤ g 0 q ∧ g 0 q ≤ n) (hek : EkA pb K g (B 7) (B 11) sz) (hcO : OwC K dr mq c0) (hna : NaB pb G K (B 11) dr nd sz) (hen : EnV (B 26) (B 27) nd vr hd c0 sl) (hem : okA → EmB pb B Ag pd m9 sn lo cs as9 hd sl os) (hrm : cs + 2 * tlE g q ≤ 10000) (hop : os.length + ndE g q ≤ 248) (hlf : 1 ≤ tlE g q ∧ 1 ≤ ndE g q) (hc0 : K.2.2.1 0 q = some q1) (ht0 : K.1 q1 = 1) (hv0 : 1 ≤ g 0 q1 ∧ g 0 q1 + 1 ≤ n) (hlf0 : 1 ≤ tlE g q1 ∧ 1 ≤ ndE g q1) (hin0 : InE g q q1) (htl : tlE g q1 + 1 ≤ tlE g q) (hnd0 : ndE g q1 ≤ ndE g q) (hkq : K.2.1 0 q = 12) (ihv : IhY l G n) (hO : OKP G h0 a (upd (upd (upd (upd (upd F 2 (nI sz)) 5 (nI cs)) 7 (nI hd)) 12 (nI vr)) 13 as9) (updR (updR R 2 (.ref pq)) 3 (.ref mq)) Z B J K w) (hl0 : l.stackTraces = false) : PBn l G pX0 yX0_fieldBehind cX0_fieldBehind 3 (some .int) ({ frames := (5 * n + 33), cells := 1, slots := 6, locals := (200 * n + 560) }) [.ref (a 4), .ref q] w (fun (v : Option Value) (u : va_W × (PK × (Nat → Nat → Int32) × Nat × Int32 × Int32 × Int32 × Nat × (Nat → AS) × Nat × Nat)) => v = some (.int (nI u.2.2.2.2.2.2.2.1)) ∧ (SmW B u.2.2.1 cs) ∧ (BdE K u.2.1) ∧ (BeF K u.2.1) ∧ (BeL K u.2.1 none) ∧ (BeI K u.2.1 g q) ∧ (Bth B u.2.2.1) ∧ (BeR B u.2.2.1) ∧ (u.2.2.2.2.2.2.2.1 < 128) ∧ (cs ≤ u.2.2.2.1 ∧ u.2.2.2.1 + 1 ≤ cs + 2 * tlE g q) ∧ (AsE as9 u.2.2.2.2.1) ∧ (okA → EvB pb B u.2.2.1 Ag u.2.2.2.2.2.2.2.2.1 pd m9 sn lo cs u.2.2.2.1 as9 u.2.2.2.2.1 hd sl (u.2.2.2.2.2.2.2.2.2.2 :: os)) ∧ (u.2.1.2.1 5 q = nI u.2.2.2.2.2.2.2.2.2.1 ∧ u.2.2.2.2.2.2.2.2.2.1 < 5000) ∧ (u.2.2.2.2.2.2.2.2.2.1 < pb.2.1 u.2.2.2.2.2.2.2.2.2.2 ∧ pb.2.2.1 u.2.2.2.2.2.2.2.2.2.2 u.2.2.2.2.2.2.2.2.2.1 = tyc u.2.2.2.2.2.2.2.1) ∧ (TyV nd u.2.2.2.2.2.2.2.1) ∧ (u.2.2.2.2.2.2.2.2.2.2 < nd) ∧ (OKP G h0 a (upd (upd (upd (upd (upd (upd (upd F 2 (nI sz)) 5 (nI u.2.2.2.1)) 7 (nI hd)) 12 (nI vr)) 13 u.2.2.2.2.1) 14 u.2.2.2.2.2.1) 15 u.2.2.2.2.2.2.1) (updR (updR R 2 (.ref pq)) 3 (.ref mq)) Z u.2.2.1 J u.2.1 u.1)) (fun u => u.1) (fun (u : va_W × (PK × (Nat → Nat → Int32) × Nat × Int32 × Int32 × Int32 × Nat × (Nat → AS) × Nat × Nat)) => 0) (fun (u : va_W × (PK × (Nat → Nat → Int32) × Nat × Int32 × Int32 × Int32 × Nat × (Nat → AS) × Nat × Nat)) => 0) (fun (u : va_W × (Nat → Int32) × (Nat → Value) × (Nat → Nat → Int32)) => ThQ G h0 a (upd (upd (upd (upd (upd F 2 (nI sz)) 5 (nI cs)) 7 (nI hd)) 12 (nI vr)) 13 as9) (updR (updR R 2 (.ref pq)) 3 (.ref mq)) Z B J u) (fun u => u.1) := by
  intro sz
  refine vx_ofW (cc := cX0_fieldBehind) (maxL := 3) (ret := (some .int)) (by decide) rfl ?_
  intro p e s m args below meth c s₁ B9 hml hnt hv
  obtain ⟨rfl, hsz, hP, hD0, hE, hX⟩ := hv
  have hx := B9.exec
  have hb := B9.bytes
  have hr := B9.returns
  have hts := atoms_spec (ws := Cond.code yX0_fieldBehind cX0_fieldBehind 3 (some .int) :: pw) B9.pre
  have hq : ∀ w ∈ pw, w.before _ s = true := fun w h => hts w (List.mem_cons_of_mem _ h)
  have hown : s.vm.findClass RX0 = some m.cls := findClass_of_methodNamed B9.named
  have hlocks := B9.notSynchronized
  subst hsz
  have hD := hD0.self (sz := s.heap.size)
  have hA : ∀ q : Nat, s.heap.size ≤ q → va_A w s.heap.size q := fun q h => Or.inr h
  generalize va_A w s.heap.size = A at hD hE hA ⊢
  have hS : va_S A s.heap s.heap [] := va_S.rf
  have hl := lv_entry ([.ref (a 4), .ref q]) (n := 3) (Nat.le_of_ble_eq_true rfl)
  rw [lg_entry_eq]
  generalize (lg_sl ([.ref (a 4), .ref q]) ++ List.replicate (3 - (lg_sl ([.ref (a 4), .ref q])).length) Slot.unset).toArray = ls at hl ⊢
  have hl : lv_has ls 3 [(0, .ref (a 4)), (1, .ref q)] := hl
  have hpg := hps.1
  have hp1 := hpg.1
  have hp2 := hpg.2.1
  have hp3 := hpg.2.2.1
  have hp4 := hpg.2.2.2.1
  have hp5 := hpg.2.2.2.2.1
  have hp6 := hpg.2.2.2.2.2.1
  have hp8 := hpg.2.2.2.2.2.2.2.1
  have hp9 := hpg.2.2.2.2.2.2.2.2
  have hdr0 : ¬ K.1 dr = 0 := by rw [hp4]; decide
  have hev0 : okA → EvQ pb.1 pb.2.1 pb.2.2.1 pb.2.2.2 (B 16) (B 17) (B 18) (B 19) (B 16) (B 17) (B 18) (B 19) Ag Ag pd m9 sn lo cs cs as9 as9 hd sl os := fun z => EvB.nil (hem z)
  refine lv_aload_n hx hb dX0_fieldBehind_0 rfl (lv_at hl 0 rfl) ?_
  refine c_get (v := .ref pq) (C := RX0) (Tc := TX0) (N := 13) (ci := 0) hx hb hq pin_wsX00 hown hE hP hO 24 (sg_24 G h0 a _ _ _ _ _) rfl 6 (by decide) (hq _ pw_110) (fun _ h9 => h9) rfl dX0_fieldBehind_1 ?_
  refine lv_aload_n hx hb dX0_fieldBehind_4 rfl (lv_at hl 0 rfl) ?_
  refine lv_aload_n hx hb dX0_fieldBehind_5 rfl (lv_at hl 1 rfl) ?_
  refine p_get (v := .ref q1) (C := RX7) (Tc := TX7) (N := 11) (ci := 13) hx hb hq pin_wsX70 hown hE hP hO (by rw [hqT]; decide) (rep_1 hqT) rfl 6 (by decide) (hq _ pw_180) (fun _ h9 => h9) (congrArg (fun z => some (va_rf z)) hc0) dX0_fieldBehind_6 ?_
  have hO : OKP G h0 a (upd (upd (upd (upd (upd (upd (upd (upd (upd (upd F 2 (nI sz)) 5 (nI cs)) 7 (nI hd)) 12 (nI vr)) 13 as9) 2 (nI sz)) 5 (nI cs)) 7 (nI hd)) 12 (nI vr)) 13 as9) (updR (updR (updR (updR R 2 (.ref pq)) 3 (.ref mq)) 2 (.ref pq)) 3 (.ref mq)) Z B J K w := hO.to rfl
  obtain ⟨_, qr4, hqr5⟩ := hO.2.1 24 _ (sg_24 G h0 a _ _ _ _ _)
  refine pn_V0 (G := G) (As := [.ref q1]) (rest := [.ref pq]) hx hb hml hown hq hE hX pX0_al hP hD hS hA hl.1 ((ihv (by omega)) h0 a (upd (upd (upd (upd (upd F 2 (nI sz)) 5 (nI cs)) 7 (nI hd)) 12 (nI vr)) 13 as9) (updR (updR R 2 (.ref pq)) 3 (.ref mq)) Z B J K w pq dr ml nd nm cp it s9 q1 mq cs vr sz g rk pb Ag pd sl os m9 sn lo hd c0 as9 okA (by omega) (BdE.wp BdE.rfl hwp) (BdE.pt BdE.rfl hwp hps) (BdE.rko BdE.rfl hrk) (by omega) (by omega) hng hmq ht0 ⟨hv0.1, (by have z9 := hv0; omega)⟩ (EkA.be BdE.rfl (BeR.rfl 7 (by decide)) (BeR.rfl 11 (by decide)) hek) (OwC.be BdE.rfl hmq hdr0 hcO) (NaB.be BdE.rfl BeF.rfl hwp hps.2.1 hdr0 (BeR.rfl 11 (by decide)) hna) (EnV.of (BeR.rfl 26 (by decide)) (BeR.rfl 27 (by decide)) hen) (fun z => (hev0 z).1) (by omega) (by show os.length + ndE g q1 ≤ 248; omega) hlf0 hO hl0) (gV pw_173 pw_174 pw_175 pw_63 pw_224) hV_X0_value qr4 0 hqr5 rfl rfl rfl (Nat.le_of_ble_eq_true rfl) dX0_fieldBehind_9 ⟨(by show 0 + 1 ≤ 1; omega), (by show 0 + 6 ≤ 6; omega)⟩ ⟨(by show (5 * (n - 1) + 34) + 1 ≤ (5 * n + 33); omega), (by show 8 + (3 + 11) + (200 * (n - 1) + 600) ≤ (200 * n + 560); omega)⟩ (fun v3 u1 H locs hw2 hP hD hS => ?_) (fun ux ce9 q9 H9 locs9 hux hP9 hD9 hS9 hce hcv hcl => pb_out ux (ThQ.up (Thx.same (Thx.same (Thx.same (Thx.same (Thx.same Thx.rfl rfl) rfl) rfl) rfl) rfl) (show RhX (updR (updR R 2 (.ref pq)) 3 (.ref mq)) (updR (updR (updR (updR R 2 (.ref pq)) 3 (.ref mq)) 2 (.ref pq)) 3 (.ref mq)) from fun k9 hk9 => by unfold updR; simp only [show ¬ k9 = 1 by omega, show ¬ k9 = 2 by omega, show ¬ k9 = 3 by omega, show ¬ k9 = 4 by omega, if_false]) hux) hnt hlocks hce hcv hcl hP9 hD9 hS9 (by show 0 + 1 ≤ 1; omega) (by show 0 + 6 ≤ 6; omega))
  obtain ⟨w, K6, B7, cs8, as10, wt11, wf12, t13, Ag14, u15⟩ := u1
  obtain ⟨hw2, h16, h17, h18, h19, h20, h21, h22, h23, h24, h25, h26, h27, hO⟩ := hw2
  have h16 : SmW B B7 cs := h16
  have h17 : BdE K K6 := h17
  have h18 : BeF K K6 := h18
  have h19 : BeL K K6 none := h19
  have h20 : BeI K K6 g q1 := h20
  have h21 : Bth B B7 := h21
  have h22 : BeR B B7 := h22
  have h23 : t13 < 128 := h23
  have h24 : cs ≤ cs8 ∧ cs8 + 0 ≤ cs + 2 * tlE g q1 := h24
  have h25 : AsE as9 as10 ∧ AsE as9 wt11 ∧ AsE as9 wf12 := h25
  have h26 : okA → VaQ pb B B7 Ag Ag14 pd m9 sn lo cs cs8 as9 as10 wt11 wf12 hd sl os t13 u15 (K.2.1 0 q1) := h26
  have h27 : CaK (K.2.1 0 q1) → cs8 + 2 ≤ cs + 2 * tlE g q1 := h27
  obtain rfl : v3 = some (.int (nI t13)) := hw2
  have hf28 : K6.1 pq = 7 := (BdE.T h17 hp1 (by decide))
  have hf29 : K6.2.2.1 18 pq = some (a 1) := (BdE.C h17 (by rw [hp1]; decide) 18).trans hp2
  have hf30 : K6.2.2.1 14 pq = some dr := (BdE.C h17 (by rw [hp1]; decide) 14).trans hp3
  have hf31 : K6.1 dr = 8 := (BdE.T h17 hp4 (by decide))
  have hf32 : K6.2.2.1 15 pq = some ml := (BdE.C h17 (by rw [hp1]; decide) 15).trans hp5
  have hf33 : K6.1 ml = 5 := (BdE.T h17 hp6 (by decide))
  have hf34 : K6.2.1 24 pq = (nI nd) := (BdE.I h17 (by rw [hp1]; decide) (by decide) (by decide)).trans hp8
  have hf35 : K6.1 q = 1 := (BdE.T h17 hqT (by decide))
  have hf36 : K6.1 mq = 3 := (BdE.T h17 hmq (by decide))
  have hf37 : K6.2.2.1 0 q = some q1 := (BdE.C h17 (by rw [hqT]; decide) 0).trans hc0
  have hf38 : K6.1 q1 = 1 := (BdE.T h17 ht0 (by decide))
  have hO : OKP G h0 a (upd (upd (upd (upd (upd (upd (upd F 2 (nI sz)) 5 (nI cs8)) 7 (nI hd)) 12 (nI vr)) 13 as10) 14 wt11) 15 wf12) (updR (updR R 2 (.ref pq)) 3 (.ref mq)) Z B7 J K6 w := hO.to rfl
  refine W.widen (k := 0) (n := 0) (by show 0 + 0 ≤ 0; omega) (by show 0 + 0 ≤ 0; omega) ?_
  refine W.eq (g2 := F0 m 12 ls [.int (nI t13), .ref pq]) rfl ?_
  have hbe39 := BdE.trans BdE.rfl h17
  have hbb40 : Bth B B7 := Bth.trans (show Thx (upd (upd (upd (upd (upd F 2 (nI sz)) 5 (nI cs)) 7 (nI hd)) 12 (nI vr)) 13 as9) (upd (upd (upd (upd (upd F 2 (nI sz)) 5 (nI cs)) 7 (nI hd)) 12 (nI vr)) 13 as9) B B from Thx.rfl).2 h21
  have hng41 : Nng (B7 18) := h21.2 hng
  have hsw42 : ∀ x9 : Nat, x9 < cs → (B7 16) x9 = B 16 x9 := fun x9 hx9 => ((h16 x9 (by omega)).1).trans ((fun _ _ => rfl) x9 hx9)
  have hsw43 : ∀ x9 : Nat, x9 < cs → (B7 17) x9 = B 17 x9 := fun x9 hx9 => ((h16 x9 (by omega)).2.1).trans ((fun _ _ => rfl) x9 hx9)
  have hsw44 : ∀ x9 : Nat, x9 < cs → (B7 18) x9 = B 18 x9 := fun x9 hx9 => ((h16 x9 (by omega)).2.2.1).trans ((fun _ _ => rfl) x9 hx9)
  have hsw45 : ∀ x9 : Nat, x9 < cs → (B7 19) x9 = B 19 x9 := fun x9 hx9 => ((h16 x9 (by omega)).2.2.2).trans ((fun _ _ => rfl) x9 hx9)
  have hbf46 := BeF.trans BeF.rfl h18 BdE.rfl
  have hbl49 := BeL.trans BeL.rfl h19 BdE.rfl
  have hbi50 := BeI.trans BeI.rfl h20 BdE.rfl hin0
  have hbr47 : BeR B B7 := BeR.trans BeR.rfl h22
  have hpt48 : (okA ∧ ¬ t13 = 63) → EvQ pb.1 pb.2.1 pb.2.2.1 pb.2.2.2 (B 16) (B 17) (B 18) (B 19) (B7 16) (B7 17) (B7 18) (B7 19) Ag Ag14 pd m9 sn lo cs cs8 as9 as10 hd sl (u15 :: os) ∧ UTb u15 (nI t13) as10 wt11 wf12 := fun z => VaQ.part (B1 := B) (hev0 z.1) (h26 z.1) h23 z.2
  have hev51 := fun z => (hpt48 z).1
  have has52 : AsE as9 as10 ∧ AsE as9 wt11 ∧ AsE as9 wf12 := ⟨AsE.trans AsE.rfl h25.1, AsE.trans AsE.rfl h25.2.1, AsE.trans AsE.rfl h25.2.2⟩
  have hO : OKP G h0 a (upd (upd (upd (upd (upd (upd (upd F 2 (nI sz)) 5 (nI cs8)) 7 (nI hd)) 12 (nI vr)) 13 as10) 14 wt11) 15 wf12) (updR (updR R 2 (.ref pq)) 3 (.ref mq)) Z B7 J K6 w := hO.to rfl
  obtain ⟨qr56, hqr57⟩ := p_recv hO (by rw [hf28]; decide) (rep_7 hf28)
  refine pc_V0 (G := G) (As := [.int (nI t13)]) (rest := []) hx hb hml hown hq hE hX pX0_al hP hD hS hA hl.1 (G_decl l G h0 a (upd (upd (upd (upd (upd (upd (upd F 2 (nI sz)) 5 (nI cs8)) 7 (nI hd)) 12 (nI vr)) 13 as10) 14 wt11) 15 wf12) (updR (updR R 2 (.ref pq)) 3 (.ref mq)) Z B7 J K6 w pq dr ml nd (nI t13) g (BdE.pt hbe39 hwp hps).1 (BdE.pt hbe39 hwp hps).2.1 hO) (gV pw_181 pw_182 pw_183 pw_106 pw_13) hV_X9_decl qr56 6 hqr57 rfl rfl rfl (Nat.le_of_ble_eq_true rfl) dX0_fieldBehind_12 ⟨(by show 0 + 0 ≤ 1; omega), (by show 0 + 0 ≤ 6; omega)⟩ ⟨(by show 2 + 1 ≤ (5 * n + 33); omega), (by show 8 + (2 + 11) + 60 ≤ (200 * n + 560); omega)⟩ (fun v55 u53 H locs hw54 hP hD hS => ?_)
  obtain ⟨w, o58⟩ := u53
  obtain ⟨hw54, h59, h60, hO⟩ := hw54
  have h59 : DoN K6 o58 := h59
  have h60 : DoK K6 dr nd (nI t13) o58 := h60
  obtain rfl : v55 = some ((va_rf o58)) := hw54
  have hO : OKP G h0 a (upd (upd (upd (upd (upd (upd (upd F 2 (nI sz)) 5 (nI cs8)) 7 (nI hd)) 12 (nI vr)) 13 as10) 14 wt11) 15 wf12) (updR (updR R 2 (.ref pq)) 3 (.ref mq)) Z B7 J K6 w := hO.to rfl
  refine W.widen (k := 0) (n := 0) (Nat.le_of_ble_eq_true rfl) (Nat.le_of_ble_eq_true rfl) ?_
  refine W.eq (g2 := F0 m 15 ls [(va_rf o58)]) rfl ?_
  rcases o58 with _ | d61
  · have hl : lv_has ls 3 [(0, .ref (a 4)), (1, .ref q)] := hl
    refine W.eq (g2 := F0 m 15 ls [.null]) rfl ?_
    refine lv_astore_nN (lv' := [(2, .null), (0, .ref (a 4)), (1, .ref q)]) hx hb dX0_fieldBehind_15 rfl hl (by decide) rfl (fun ls hl => ?_)
    refine lv_aload_nN hx hb dX0_fieldBehind_16 rfl (lv_at hl 0 rfl) ?_
    refine lv_ifnullN (tgt := 27) hx hb dX0_fieldBehind_17 (by decide) ?_
    refine lv_aload_n hx hb dX0_fieldBehind_27 rfl (lv_at hl 1 rfl) ?_
    refine c_get (v := .ref (a 1)) (C := RX0) (Tc := TX0) (N := 13) (ci := 0) hx hb hq pin_wsX00 hown hE hP hO 24 (sg_24 G h0 a _ _ _ _ _) rfl 0 (by decide) (hq _ pw_4) (fun _ h9 => h9) rfl dX0_fieldBehind_28 ?_
    refine lv_bipush (v := 11) hx hb dX0_fieldBehind_31 (by decide) ?_
    refine lv_aload_n hx hb dX0_fieldBehind_33 rfl (lv_at hl 2 rfl) ?_
    refine p_get (v := .ref q1) (C := RX7) (Tc := TX7) (N := 11) (ci := 13) hx hb hq pin_wsX70 hown hE hP hO (by rw [hf35]; decide) (rep_1 hf35) rfl 6 (by decide) (hq _ pw_180) (fun _ h9 => h9) (congrArg (fun z => some (va_rf z)) hf37) dX0_fieldBehind_34 ?_
    refine p_get (v := .int (K6.2.1 2 q1)) (C := RX7) (Tc := TX7) (N := 11) (ci := 13) hx hb hq pin_wsX70 hown hE hP hO (by rw [hf38]; decide) (rep_1 hf38) rfl 2 (by decide) (hq _ pw_82) (fun _ h9 => h9) rfl dX0_fieldBehind_37 ?_
    have hO : OKW G h0 a (upd (upd (upd (upd (upd (upd (upd (upd (upd (upd F 2 (nI sz)) 5 (nI cs)) 7 (nI hd)) 12 (nI vr)) 13 as9) 5 (nI cs8)) 13 as10) 14 wt11) 15 wf12) 2 (nI sz)) (updR (updR R 2 (.ref pq)) 3 (.ref mq)) Z B7 J K6.1 (fun q99 x99 => x99 = rep G a K6 q99) w := hO.to rfl
    obtain ⟨_, qr65, hqr66⟩ := hO.2.1 2 _ (sg_2 G h0 a _ _ _ _ _)
    refine pn_V0 (G := G) (As := [.int 11, .int (K6.2.1 2 q1)]) (rest := []) hx hb hml hown hq hE hX pX0_al hP hD hS hA hl.1 (K_fail l G h0 a (upd (upd (upd (upd (upd (upd (upd (upd (upd F 2 (nI sz)) 5 (nI cs)) 7 (nI hd)) 12 (nI vr)) 13 as9) 5 (nI cs8)) 13 as10) 14 wt11) 15 wf12) (updR (updR R 2 (.ref pq)) 3 (.ref mq)) Z B7 J K6.1 (fun q99 x99 => x99 = rep G a K6 q99) w 11 (K6.2.1 2 q1) sz (by omega) hO hl0) (gV pw_64 pw_65 pw_66 pw_59 pw_43) hV_X10_fail qr65 7 hqr66 rfl rfl rfl (Nat.le_of_ble_eq_true rfl) dX0_fieldBehind_40 ⟨(by show 0 + 1 ≤ 1; omega), (by show 0 + 6 ≤ 6; omega)⟩ ⟨(by show 6 + 1 ≤ (5 * n + 33); omega), (by show 8 + (3 + 11) + 100 ≤ (200 * n + 560); omega)⟩ (fun v64 u62 H locs hw63 hP hD hS => hw63.elim) (fun ux ce9 q9 H9 locs9 hux hP9 hD9 hS9 hce hcv hcl => pb_out ux (ThQ.up (Thx.same (Thx.f (Thx.f (Thx.f (Thx.f (Bth.thx hbb40) (by omega)) (by omega)) (by omega)) (by omega)) rfl) RhX.rfl hux) hnt hlocks hce hcv hcl hP9 hD9 hS9 (by show 0 + 1 ≤ 1; omega) (by show 0 + 6 ≤ 6; omega))
  · have hl : lv_has ls 3 [(0, .ref (a 4)), (1, .ref q)] := hl
    refine W.eq (g2 := F0 m 15 ls [.ref d61]) rfl ?_
    have hf67 : K6.1 d61 = 4 := h59 d61 rfl
    obtain ⟨k9, hk9, hx9, hr9⟩ := h60 d61 rfl
    have hk8 : t13 = k9 := (nI_eq (by omega) (by have z9 := hna.1.1; omega)).mp hx9
    have h379 := hna.1.1
    refine lv_astore_n (lv' := [(2, .ref d61), (0, .ref (a 4)), (1, .ref q)]) hx hb dX0_fieldBehind_15 rfl hl (by decide) rfl (fun ls hl => ?_)
    refine lv_aload_n hx hb dX0_fieldBehind_16 rfl (lv_at hl 0 rfl) ?_
    refine lv_ifnull hx hb dX0_fieldBehind_17 ?_
    refine lv_aload_n hx hb dX0_fieldBehind_20 rfl (lv_at hl 0 rfl) ?_
    refine p_get (v := .int (K6.2.1 18 d61)) (C := RX2) (Tc := TX2) (N := 13) (ci := 2) hx hb hq pin_wsX20 hown hE hP hO (by rw [hf67]; decide) (rep_4 hf67) rfl 3 (by decide) (hq _ pw_211) (fun _ h9 => h9) rfl dX0_fieldBehind_21 ?_
    refine lv_if_eq (tgt := 43) hx hb dX0_fieldBehind_24 (by decide) (fun c68 => ?_) (fun c68 => ?_)
    · refine lv_aload_n hx hb dX0_fieldBehind_43 rfl (lv_at hl 1 rfl) ?_
      refine lv_aload_n hx hb dX0_fieldBehind_44 rfl (lv_at hl 0 rfl) ?_
      refine lv_aload_n hx hb dX0_fieldBehind_45 rfl (lv_at hl 2 rfl) ?_
      have hut69 := fun z : okA => (hpt48 ⟨z, (by omega)⟩).2
      have hev70 := fun z : okA => hev51 ⟨z, (by omega)⟩
      have hO : OKP G h0 a (upd (upd (upd (upd (upd (upd (upd (upd (upd (upd F 2 (nI sz)) 5 (nI cs)) 7 (nI hd)) 12 (nI vr)) 13 as9) 5 (nI cs8)) 13 as10) 14 wt11) 15 wf12) 2 (nI sz)) (updR (updR R 2 (.ref pq)) 3 (.ref mq)) Z B7 J K6 w := hO.to rfl
      obtain ⟨_, qr74, hqr75⟩ := hO.2.1 24 _ (sg_24 G h0 a _ _ _ _ _)
      refine pn_V0 (G := G) (As := [.ref d61, .ref q]) (rest := []) hx hb hml hown hq hE hX pX0_al hP hD hS hA hl.1 (Y_fieldType l G h0 a (upd (upd (upd (upd (upd (upd (upd (upd (upd F 2 (nI sz)) 5 (nI cs)) 7 (nI hd)) 12 (nI vr)) 13 as9) 5 (nI cs8)) 13 as10) 14 wt11) 15 wf12) (updR (updR R 2 (.ref pq)) 3 (.ref mq)) Z B7 J K6 w d61 q sz dr nd t13 g pb (by omega) hf67 hf35 (by rw [BdE.I hbe39 (by rw [hqT]; decide) (by decide) (by decide), hkq]; decide) (by omega) (by rw [hk8]; exact hr9) (NaB.be hbe39 hbf46 hwp hps.2.1 hdr0 (hbr47 11 (by decide)) hna) hO hl0) (gV pw_162 pw_163 pw_164 pw_63 pw_147) hV_X0_fieldType qr74 0 hqr75 rfl rfl rfl (Nat.le_of_ble_eq_true rfl) dX0_fieldBehind_46 ⟨(by show 0 + 1 ≤ 1; omega), (by show 0 + 6 ≤ 6; omega)⟩ ⟨(by show 7 + 1 ≤ (5 * n + 33); omega), (by show 8 + (4 + 11) + 146 ≤ (200 * n + 560); omega)⟩ (fun v73 u71 H locs hw72 hP hD hS => ?_) (fun ux ce9 q9 H9 locs9 hux hP9 hD9 hS9 hce hcv hcl => pb_out ux (ThQ.up (Thx.same (Thx.f (Thx.f (Thx.f (Thx.f (Bth.thx hbb40) (by omega)) (by omega)) (by omega)) (by omega)) rfl) RhX.rfl hux) hnt hlocks hce hcv hcl hP9 hD9 hS9 (by show 0 + 1 ≤ 1; omega) (by show 0 + 6 ≤ 6; omega))
      obtain ⟨w, K76, t77, n78⟩ := u71
      obtain ⟨hw72, h79, h80, h81, h82, h83, h84, h85, h86, h87, hO⟩ := hw72
      have h79 : BdE K6 K76 := h79
      have h80 : BeF K6 K76 := h80
      have h81 : BeL K6 K76 none := h81
      have h82 : BeI K6 K76 g q := h82
      have h83 : K76.2.1 5 q = nI n78 := h83
      have h84 : n78 < pb.2.1 t13 ∧ n78 < 5000 := h84
      have h85 : pb.2.2.1 t13 n78 = tyc t77 := h85
      have h86 : TyV nd t77 := h86
      have h87 : t77 < 128 := h87
      obtain rfl : v73 = some (.int (nI t77)) := hw72
      have hf88 : K76.1 pq = 7 := (BdE.T h79 hf28 (by decide))
      have hf89 : K76.2.2.1 18 pq = some (a 1) := (BdE.C h79 (by rw [hf28]; decide) 18).trans hf29
      have hf90 : K76.2.2.1 14 pq = some dr := (BdE.C h79 (by rw [hf28]; decide) 14).trans hf30
      have hf91 : K76.1 dr = 8 := (BdE.T h79 hf31 (by decide))
      have hf92 : K76.2.2.1 15 pq = some ml := (BdE.C h79 (by rw [hf28]; decide) 15).trans hf32
      have hf93 : K76.1 ml = 5 := (BdE.T h79 hf33 (by decide))
      have hf94 : K76.2.1 24 pq = (nI nd) := (BdE.I h79 (by rw [hf28]; decide) (by decide) (by decide)).trans hf34
      have hf95 : K76.1 q = 1 := (BdE.T h79 hf35 (by decide))
      have hf96 : K76.1 mq = 3 := (BdE.T h79 hf36 (by decide))
      have hf97 : K76.2.2.1 0 q = some q1 := (BdE.C h79 (by rw [hf35]; decide) 0).trans hf37
      have hf98 : K76.1 q1 = 1 := (BdE.T h79 hf38 (by decide))
      have hf99 : K76.1 d61 = 4 := (BdE.T h79 hf67 (by decide))
      have hO : OKP G h0 a (upd (upd (upd (upd (upd (upd (upd F 2 (nI sz)) 5 (nI cs8)) 7 (nI hd)) 12 (nI vr)) 13 as10) 14 wt11) 15 wf12) (updR (updR R 2 (.ref pq)) 3 (.ref mq)) Z B7 J K76 w := hO.to rfl
      refine W.widen (k := 0) (n := 0) (by show 0 + 0 ≤ 0; omega) (by show 0 + 0 ≤ 0; omega) ?_
      refine W.eq (g2 := F0 m 49 ls [.int (nI t77)]) rfl ?_
      have hbe100 := BdE.trans hbe39 h79
      have hbf101 := BeF.trans hbf46 h80 hbe39
      have hbl102 := BeL.trans hbl49 h81 hbe39
      have hbi103 := BeI.trans hbi50 h82 hbe39 InE.rfl
      refine W_size (fun hz1 hz2 => ?_)
      refine vx_ret ?_
      have hz104 : SmW B B7 cs := (fun x9 hx9 => ⟨hsw42 x9 hx9, hsw43 x9 hx9, hsw44 x9 hx9, hsw45 x9 hx9⟩)
      have hz105 : BdE K K76 := hbe100
      have hz106 : BeF K K76 := hbf101
      have hz107 : BeL K K76 none := hbl102
      have hz108 : BeI K K76 g q := hbi103
      have hz109 : Bth B B7 := (show Thx (upd (upd (upd (upd (upd F 2 (nI sz)) 5 (nI cs)) 7 (nI hd)) 12 (nI vr)) 13 as9) (upd (upd (upd (upd (upd (upd (upd (upd (upd F 2 (nI sz)) 5 (nI cs)) 7 (nI hd)) 12 (nI vr)) 13 as9) 5 (nI cs8)) 13 as10) 14 wt11) 15 wf12) B B7 from (Thx.f (Thx.f (Thx.f (Thx.f (Bth.thx hbb40) (by omega)) (by omega)) (by omega)) (by omega))).2
      have hz110 : BeR B B7 := hbr47
      have hz111 : t77 < 128 := (by omega)
      have hz112 : cs ≤ cs8 ∧ cs8 + 1 ≤ cs + 2 * tlE g q := (by omega)
      have hz113 : AsE as9 as10 := has52.1
      have hz114 : okA → EvB pb B B7 Ag Ag14 pd m9 sn lo cs cs8 as9 as10 hd sl (t13 :: os) := (fun z => by rw [← UTb.eq (hut69 z) h23 (by omega)]; exact hev70 z)
      have hz115 : K76.2.1 5 q = nI n78 ∧ n78 < 5000 := ⟨h83, h84.2⟩
      have hz116 : n78 < pb.2.1 t13 ∧ pb.2.2.1 t13 n78 = tyc t77 := ⟨h84.1, h85⟩
      have hz117 : TyV nd t77 := h86
      have hz118 : t13 < nd := (by omega)
      have hO : OKP G h0 a (upd (upd (upd (upd (upd (upd (upd F 2 (nI sz)) 5 (nI cs8)) 7 (nI hd)) 12 (nI vr)) 13 as10) 14 wt11) 15 wf12) (updR (updR R 2 (.ref pq)) 3 (.ref mq)) Z B7 J K76 w := hO.to rfl
      refine W.widen (k := 1) (n := 6) (by omega) (by omega) ?_
      have hzz1 : H.size ≤ s.heap.size + (0) := (by have z : 0 ≤ 0 := (by omega); omega)
      have hzz2 : hSl H ≤ hSl s.heap + (0) := (by have z : 0 ≤ 0 := (by omega); omega)
      exact W.iret (v := (nI t77)) hx hb hr (fun t99 ht99 hW99 => ⟨⟨_, (w, (K76, B7, cs8, as10, wt11, wf12, t77, Ag14, n78, t13)), rfl, ⟨rfl, hz104, hz105, hz106, hz107, hz108, hz109, hz110, hz111, hz112, hz113, hz114, hz115, hz116, hz117, hz118, hO⟩, by rw [ht99]; exact hP, hD, by rw [ht99]; exact hzz1, by rw [ht99]; exact hzz2⟩, hS.F ht99⟩) hS.2.2 dX0_fieldBehind_49
    · refine lv_aload_n hx hb dX0_fieldBehind_27 rfl (lv_at hl 1 rfl) ?_
      refine c_get (v := .ref (a 1)) (C := RX0) (Tc := TX0) (N := 13) (ci := 0) hx hb hq pin_wsX00 hown hE hP hO 24 (sg_24 G h0 a _ _ _ _ _) rfl 0 (by decide) (hq _ pw_4) (fun _ h9 => h9) rfl dX0_fieldBehind_28 ?_
      refine lv_bipush (v := 11) hx hb dX0_fieldBehind_31 (by decide) ?_
      refine lv_aload_n hx hb dX0_fieldBehind_33 rfl (lv_at hl 2 rfl) ?_
      refine p_get (v := .ref q1) (C := RX7) (Tc := TX7) (N := 11) (ci := 13) hx hb hq pin_wsX70 hown hE hP hO (by rw [hf35]; decide) (rep_1 hf35) rfl 6 (by decide) (hq _ pw_180) (fun _ h9 => h9) (congrArg (fun z => some (va_rf z)) hf37) dX0_fieldBehind_34 ?_
      refine p_get (v := .int (K6.2.1 2 q1)) (C := RX7) (Tc := TX7) (N := 11) (ci := 13) hx hb hq pin_wsX70 hown hE hP hO (by rw [hf38]; decide) (rep_1 hf38) rfl 2 (by decide) (hq _ pw_82) (fun _ h9 => h9) rfl dX0_fieldBehind_37 ?_
      have hO : OKW G h0 a (upd (upd (upd (upd (upd (upd (upd (upd (upd (upd F 2 (nI sz)) 5 (nI cs)) 7 (nI hd)) 12 (nI vr)) 13 as9) 5 (nI cs8)) 13 as10) 14 wt11) 15 wf12) 2 (nI sz)) (updR (updR R 2 (.ref pq)) 3 (.ref mq)) Z B7 J K6.1 (fun q99 x99 => x99 = rep G a K6 q99) w := hO.to rfl
      obtain ⟨_, qr122, hqr123⟩ := hO.2.1 2 _ (sg_2 G h0 a _ _ _ _ _)
      refine pn_V0 (G := G) (As := [.int 11, .int (K6.2.1 2 q1)]) (rest := []) hx hb hml hown hq hE hX pX0_al hP hD hS hA hl.1 (K_fail l G h0 a (upd (upd (upd (upd (upd (upd (upd (upd (upd F 2 (nI sz)) 5 (nI cs)) 7 (nI hd)) 12 (nI vr)) 13 as9) 5 (nI cs8)) 13 as10) 14 wt11) 15 wf12) (updR (updR R 2 (.ref pq)) 3 (.ref mq)) Z B7 J K6.1 (fun q99 x99 => x99 = rep G a K6 q99) w 11 (K6.2.1 2 q1) sz (by omega) hO hl0) (gV pw_64 pw_65 pw_66 pw_59 pw_43) hV_X10_fail qr122 7 hqr123 rfl rfl rfl (Nat.le_of_ble_eq_true rfl) dX0_fieldBehind_40 ⟨(by show 0 + 1 ≤ 1; omega), (by show 0 + 6 ≤ 6; omega)⟩ ⟨(by show 6 + 1 ≤ (5 * n + 33); omega), (by show 8 + (3 + 11) + 100 ≤ (200 * n + 560); omega)⟩ (fun v121 u119 H locs hw120 hP hD hS => hw120.elim) (fun ux ce9 q9 H9 locs9 hux hP9 hD9 hS9 hce hcv hcl => pb_out ux (ThQ.up (Thx.same (Thx.f (Thx.f (Thx.f (Thx.f (Bth.thx hbb40) (by omega)) (by omega)) (by omega)) (by omega)) rfl) RhX.rfl hux) hnt hlocks hce hcv hcl hP9 hD9 hS9 (by show 0 + 1 ≤ 1; omega) (by show 0 + 6 ≤ 6; omega))
set_option maxHeartbeats 24000000 in
set_option maxRecDepth 100000 in
theorem Y_variableValue (l : Launch) (G : pT) (h0 : Nat) (a : Nat → Nat) (F : Nat → Int32) (R : Nat → Value) (Z : Int64) (B : Nat → Nat → Int32) (J : Nat → Nat → Int64) (K : PK) (w : va_W) (pq : Nat) (dr : Nat) (ml : Nat) (nd : Nat) (nm : Nat) (cp : Nat) (it : Nat → Nat) (s9 : Nat) (q : Nat) (mq : Nat) (cs : Nat) (vr : Nat) (sz : Nat) (n : Nat) (g : Nat → Nat → Nat) (rk : Nat → Nat) (pb : PNb) (Ag : Nat → AS) (pd : Nat → Prop) (sl : Nat → Nat) (os : List Nat) (m9 : Nat) (sn : Nat) (lo : Nat) (hd : Nat) (c0 : Nat) (as9 : Int32) (okA : Prop) (hsz : sz ≤ 5000) (hwp : WPr G K g) (hps : PgT G K g (a 1) pq dr ml nd nm cp it s9) (hrk : RkO K rk) (hcs : cs ≤ 10000) (hvr : vr ≤ 30) (hng : Nng (B 18)) (hmq : K.1 mq = 3) (hqT : K.1 q = 1) (hqL : 1 ≤ g 0 q ∧ g 0 q ≤ n) (hek : EkA pb K g (B 7) (B 11) sz) (hcO : OwC K dr mq c0) (hna : NaB pb G K (B 11) dr nd sz) (hen : EnV (B 26) (B 27) nd vr hd c0 sl) (hem : okA → EmB pb B Ag pd m9 sn lo cs as9 hd sl os) (hrm : cs + 2 * tlE g q ≤ 10000) (hop : os.length + ndE g q ≤ 248) (hlf : 1 ≤ tlE g q ∧ 1 ≤ ndE g q) (hkq : K.2.1 0 q = 5) (hO : OKP G h0 a (upd (upd (upd (upd (upd F 2 (nI sz)) 5 (nI cs)) 7 (nI hd)) 12 (nI vr)) 13 as9) (updR (updR R 2 (.ref pq)) 3 (.ref mq)) Z B J K w) (hl0 : l.stackTraces = false) : PBn l G pX0 yX0_variableValue cX0_variableValue 4 (some .int) ({ frames := (5 * n + 33), cells := 1, slots := 6, locals := (200 * n + 560) }) [.ref (a 4), .ref q] w (fun (v : Option Value) (u : va_W × (PK × (Nat → Nat → Int32) × Nat × Int32 × Int32 × Int32 × Nat × (Nat → AS))) => v = some (.int (nI u.2.2.2.2.2.2.2.1)) ∧ (SmW B u.2.2.1 cs) ∧ (BdE K u.2.1) ∧ (BeF K u.2.1) ∧ (BeL K u.2.1 none) ∧ (BeI K u.2.1 g q) ∧ (Bth B u.2.2.1) ∧ (BeR B u.2.2.1) ∧ (u.2.2.2.2.2.2.2.1 < 128) ∧ (cs ≤ u.2.2.2.1 ∧ u.2.2.2.1 + 0 ≤ cs + 2 * tlE g q) ∧ (AsE as9 u.2.2.2.2.1) ∧ (okA → PlQ pb B u.2.2.1 Ag u.2.2.2.2.2.2.2.2 pd m9 sn lo cs u.2.2.2.1 as9 u.2.2.2.2.1 hd sl os u.2.2.2.2.2.2.2.1 (K.2.1 0 q)) ∧ (OKP G h0 a (upd (upd (upd (upd (upd (upd (upd F 2 (nI sz)) 5 (nI u.2.2.2.1)) 7 (nI hd)) 12 (nI vr)) 13 u.2.2.2.2.1) 14 u.2.2.2.2.2.1) 15 u.2.2.2.2.2.2.1) (updR (updR R 2 (.ref pq)) 3 (.ref mq)) Z u.2.2.1 J u.2.1 u.1)) (fun u => u.1) (fun (u : va_W × (PK × (Nat → Nat → Int32) × Nat × Int32 × Int32 × Int32 × Nat × (Nat → AS))) => 0) (fun (u : va_W × (PK × (Nat → Nat → Int32) × Nat × Int32 × Int32 × Int32 × Nat × (Nat → AS))) => 0) (fun (u : va_W × (Nat → Int32) × (Nat → Value) × (Nat → Nat → Int32)) => ThQ G h0 a (upd (upd (upd (upd (upd F 2 (nI sz)) 5 (nI cs)) 7 (nI hd)) 12 (nI vr)) 13 as9) (updR (updR R 2 (.ref pq)) 3 (.ref mq)) Z B J u) (fun u => u.1) := by
  intro sz
  refine vx_ofW (cc := cX0_variableValue) (maxL := 4) (ret := (some .int)) (by decide) rfl ?_
  intro p e s m args below meth c s₁ B9 hml hnt hv
  obtain ⟨rfl, hsz, hP, hD0, hE, hX⟩ := hv
  have hx := B9.exec
  have hb := B9.bytes
  have hr := B9.returns
  have hts := atoms_spec (ws := Cond.code yX0_variableValue cX0_variableValue 4 (some .int) :: pw) B9.pre
  have hq : ∀ w ∈ pw, w.before _ s = true := fun w h => hts w (List.mem_cons_of_mem _ h)
  have hown : s.vm.findClass RX0 = some m.cls := findClass_of_methodNamed B9.named
  have hlocks := B9.notSynchronized
  subst hsz
  have hD := hD0.self (sz := s.heap.size)
  have hA : ∀ q : Nat, s.heap.size ≤ q → va_A w s.heap.size q := fun q h => Or.inr h
  generalize va_A w s.heap.size = A at hD hE hA ⊢
  have hS : va_S A s.heap s.heap [] := va_S.rf
  have hl := lv_entry ([.ref (a 4), .ref q]) (n := 4) (Nat.le_of_ble_eq_true rfl)
  rw [lg_entry_eq]
  generalize (lg_sl ([.ref (a 4), .ref q]) ++ List.replicate (4 - (lg_sl ([.ref (a 4), .ref q])).length) Slot.unset).toArray = ls at hl ⊢
  have hl : lv_has ls 4 [(0, .ref (a 4)), (1, .ref q)] := hl
  have hpg := hps.1
  have hp1 := hpg.1
  have hp2 := hpg.2.1
  have hp3 := hpg.2.2.1
  have hp4 := hpg.2.2.2.1
  have hp5 := hpg.2.2.2.2.1
  have hp6 := hpg.2.2.2.2.2.1
  have hp8 := hpg.2.2.2.2.2.2.2.1
  have hp9 := hpg.2.2.2.2.2.2.2.2
  have hdr0 : ¬ K.1 dr = 0 := by rw [hp4]; decide
  have hcO9 := hcO
  obtain ⟨dO, hdO, htO, hrO, hnO⟩ := hcO9
  have hev0 : okA → EvQ pb.1 pb.2.1 pb.2.2.1 pb.2.2.2 (B 16) (B 17) (B 18) (B 19) (B 16) (B 17) (B 18) (B 19) Ag Ag pd m9 sn lo cs cs as9 as9 hd sl os := fun z => EvB.nil (hem z)
  refine lv_aload_n hx hb dX0_variableValue_0 rfl (lv_at hl 0 rfl) ?_
  refine lv_aload_n hx hb dX0_variableValue_1 rfl (lv_at hl 0 rfl) ?_
  refine c_get (v := .ref (a 1)) (C := RX0) (Tc := TX0) (N := 13) (ci := 0) hx hb hq pin_wsX00 hown hE hP hO 24 (sg_24 G h0 a _ _ _ _ _) rfl 0 (by decide) (hq _ pw_4) (fun _ h9 => h9) rfl dX0_variableValue_2 ?_
  refine lv_aload_n hx hb dX0_variableValue_5 rfl (lv_at hl 1 rfl) ?_
  refine p_get (v := .int (K.2.1 1 q)) (C := RX7) (Tc := TX7) (N := 11) (ci := 13) hx hb hq pin_wsX70 hown hE hP hO (by rw [hqT]; decide) (rep_1 hqT) rfl 1 (by decide) (hq _ pw_81) (fun _ h9 => h9) rfl dX0_variableValue_6 ?_
  have hO : OKW G h0 a (upd (upd (upd (upd (upd (upd F 2 (nI sz)) 5 (nI cs)) 7 (nI hd)) 12 (nI vr)) 13 as9) 2 (nI sz)) (updR (updR R 2 (.ref pq)) 3 (.ref mq)) Z B J K.1 (fun q99 x99 => x99 = rep G a K q99) w := hO.to rfl
  obtain ⟨_, qr4, hqr5⟩ := hO.2.1 2 _ (sg_2 G h0 a _ _ _ _ _)
  refine pc_V0 (G := G) (As := [.int (K.2.1 1 q)]) (rest := [.ref (a 4)]) hx hb hml hown hq hE hX pX0_al hP hD hS hA hl.1 (Y_valueAt l G h0 a (upd (upd (upd (upd (upd F 2 (nI sz)) 5 (nI cs)) 7 (nI hd)) 12 (nI vr)) 13 as9) (updR (updR R 2 (.ref pq)) 3 (.ref mq)) Z B J K.1 (fun q99 x99 => x99 = rep G a K q99) w (K.2.1 1 q) sz (by omega) hO) (gV pw_56 pw_57 pw_58 pw_59 pw_39) hV_X10_valueAt qr4 7 hqr5 rfl rfl rfl (Nat.le_of_ble_eq_true rfl) dX0_variableValue_9 ⟨(by show 0 + 0 ≤ 1; omega), (by show 0 + 0 ≤ 6; omega)⟩ ⟨(by show 2 + 1 ≤ (5 * n + 33); omega), (by show 8 + (2 + 11) + 60 ≤ (200 * n + 560); omega)⟩ (fun v3 u1 H locs hw2 hP hD hS => ?_)
  obtain ⟨w, _⟩ := u1
  obtain ⟨hw2, hO⟩ := hw2
  obtain rfl : v3 = some (.int (tkN ((B 9)) sz (-1) (K.2.1 1 q))) := hw2
  have hO : OKP G h0 a (upd (upd (upd (upd (upd F 2 (nI sz)) 5 (nI cs)) 7 (nI hd)) 12 (nI vr)) 13 as9) (updR (updR R 2 (.ref pq)) 3 (.ref mq)) Z B J K w := hO.to rfl
  refine W.widen (k := 0) (n := 0) (Nat.le_of_ble_eq_true rfl) (Nat.le_of_ble_eq_true rfl) ?_
  refine W.eq (g2 := F0 m 12 ls [.int (tkN ((B 9)) sz (-1) (K.2.1 1 q)), .ref (a 4)]) rfl ?_
  have hO : OKW G h0 a (upd (upd (upd (upd (upd (upd F 2 (nI sz)) 5 (nI cs)) 7 (nI hd)) 12 (nI vr)) 13 as9) 12 (nI vr)) (updR (updR R 2 (.ref pq)) 3 (.ref mq)) Z B J K.1 (fun q99 x99 => x99 = rep G a K q99) w := hO.to rfl
  obtain ⟨_, qr9, hqr10⟩ := hO.2.1 24 _ (sg_24 G h0 a _ _ _ _ _)
  refine pc_V0 (G := G) (As := [.int (tkN ((B 9)) sz (-1) (K.2.1 1 q))]) (rest := []) hx hb hml hown hq hE hX pX0_al hP hD hS hA hl.1 (B_variable l G h0 a (upd (upd (upd (upd (upd F 2 (nI sz)) 5 (nI cs)) 7 (nI hd)) 12 (nI vr)) 13 as9) (updR (updR R 2 (.ref pq)) 3 (.ref mq)) Z B J K.1 (fun q99 x99 => x99 = rep G a K q99) w (tkN ((B 9)) sz (-1) (K.2.1 1 q)) vr (by omega) hO) (gV pw_60 pw_61 pw_62 pw_63 pw_41) hV_X0_variable qr9 0 hqr10 rfl rfl rfl (Nat.le_of_ble_eq_true rfl) dX0_variableValue_12 ⟨(by show 0 + 0 ≤ 1; omega), (by show 0 + 0 ≤ 6; omega)⟩ ⟨(by show 2 + 1 ≤ (5 * n + 33); omega), (by show 8 + (3 + 11) + 60 ≤ (200 * n + 560); omega)⟩ (fun v8 u6 H locs hw7 hP hD hS => ?_)
  obtain ⟨w, r11⟩ := u6
  obtain ⟨hw7, h12, hO⟩ := hw7
  have h12 : VrQ vr r11 := h12
  obtain rfl : v8 = some (.int r11) := hw7
  have hO : OKP G h0 a (upd (upd (upd (upd (upd F 2 (nI sz)) 5 (nI cs)) 7 (nI hd)) 12 (nI vr)) 13 as9) (updR (updR R 2 (.ref pq)) 3 (.ref mq)) Z B J K w := hO.to rfl
  refine W.widen (k := 0) (n := 0) (Nat.le_of_ble_eq_true rfl) (Nat.le_of_ble_eq_true rfl) ?_
  refine W.eq (g2 := F0 m 15 ls [.int r11]) rfl ?_
  refine lv_istore_n (lv' := [(2, .int r11), (0, .ref (a 4)), (1, .ref q)]) hx hb dX0_variableValue_15 rfl hl (by decide) rfl (fun ls hl => ?_)
  refine lv_iload_n hx hb dX0_variableValue_16 rfl (lv_at hl 0 rfl) ?_
  refine lv_iconst (v := (-1)) hx hb dX0_variableValue_17 (by decide) ?_
  refine lv_icmp_ne (tgt := 56) hx hb dX0_variableValue_18 (by decide) (fun c13 => ?_) (fun c13 => ?_)
  · obtain ⟨t9, ht9, hl9⟩ := h12.resolve_left c13
    subst ht9
    have hl : lv_has ls 4 [(2, .int (nI t9)), (0, .ref (a 4)), (1, .ref q)] := hl
    obtain ⟨s5, t5, hs5, hs6, ht5, ht6, hsl5⟩ := EnV.var hen hl9
    have ht7 := ht6.lt hna.1.1
    refine lv_aload_n hx hb dX0_variableValue_56 rfl (lv_at hl 1 rfl) ?_
    refine c_get (v := .int as9) (C := RX0) (Tc := TX0) (N := 13) (ci := 0) hx hb hq pin_wsX00 hown hE hP hO 24 (sg_24 G h0 a _ _ _ _ _) rfl 8 (by decide) (hq _ pw_55) (fun _ h9 => h9) rfl dX0_variableValue_57 ?_
    refine lv_iload_n hx hb dX0_variableValue_60 rfl (lv_at hl 0 rfl) ?_
    refine lv_iushr hx hb dX0_variableValue_61 rfl ?_
    refine lv_topi (fun x14 e15 => ?_)
    refine lv_iconst (v := 1) hx hb dX0_variableValue_62 (by decide) ?_
    refine lv_iand hx hb dX0_variableValue_63 ?_
    refine lv_topi (fun x16 e17 => ?_)
    refine lv_if_ne (tgt := 80) hx hb dX0_variableValue_64 (by decide) (fun c18 => ?_) (fun c18 => ?_)
    · refine lv_aload_n hx hb dX0_variableValue_80 rfl (lv_at hl 1 rfl) ?_
      refine lv_iconst (v := 2) hx hb dX0_variableValue_81 (by decide) ?_
      refine lv_aload_n hx hb dX0_variableValue_82 rfl (lv_at hl 1 rfl) ?_
      refine c_get (v := .ref (a 27)) (C := RX0) (Tc := TX0) (N := 13) (ci := 0) hx hb hq pin_wsX00 hown hE hP hO 24 (sg_24 G h0 a _ _ _ _ _) rfl 4 (by decide) (hq _ pw_9) (fun _ h9 => h9) rfl dX0_variableValue_83 ?_
      refine lv_iload_n hx hb dX0_variableValue_86 rfl (lv_at hl 0 rfl) ?_
      refine c_ldi (f := (B 27)) (n := 30) (t0 := 0) hx hb hE hP hO 27 (sg_27 G h0 a _ _ _ _ _) rfl (vp_in_nI (by omega) (by decide)) dX0_variableValue_87 ?_
      rw [(nI_clamp (show t9 < 2 ^ 31 by omega))]
      refine lv_topi (fun x19 e20 => ?_)
      obtain rfl : x19 = nI s5 := e20.trans hs5
      refine lv_aload_n hx hb dX0_variableValue_88 rfl (lv_at hl 1 rfl) ?_
      refine c_get (v := .ref (a 26)) (C := RX0) (Tc := TX0) (N := 13) (ci := 0) hx hb hq pin_wsX00 hown hE hP hO 24 (sg_24 G h0 a _ _ _ _ _) rfl 3 (by decide) (hq _ pw_8) (fun _ h9 => h9) rfl dX0_variableValue_89 ?_
      refine lv_iload_n hx hb dX0_variableValue_92 rfl (lv_at hl 0 rfl) ?_
      refine c_ldi (f := (B 26)) (n := 30) (t0 := 0) hx hb hE hP hO 26 (sg_26 G h0 a _ _ _ _ _) rfl (vp_in_nI (by omega) (by decide)) dX0_variableValue_93 ?_
      rw [(nI_clamp (show t9 < 2 ^ 31 by omega))]
      refine lv_topi (fun x21 e22 => ?_)
      obtain rfl : x21 = nI t5 := e22.trans ht5
      have hO : OKW G h0 a (upd (upd (upd (upd (upd (upd (upd F 2 (nI sz)) 5 (nI cs)) 7 (nI hd)) 12 (nI vr)) 13 as9) 5 (nI cs)) 7 (nI hd)) (updR (updR R 2 (.ref pq)) 3 (.ref mq)) Z B J K.1 (fun q99 x99 => x99 = rep G a K q99) w := hO.to rfl
      obtain ⟨_, qr26, hqr27⟩ := hO.2.1 24 _ (sg_24 G h0 a _ _ _ _ _)
      refine pc_V0 (G := G) (As := [.int 2, .int (nI s5), .int (nI t5)]) (rest := []) hx hb hml hown hq hE hX pX0_al hP hD hS hA hl.1 (Y_give l G h0 a (upd (upd (upd (upd (upd F 2 (nI sz)) 5 (nI cs)) 7 (nI hd)) 12 (nI vr)) 13 as9) (updR (updR R 2 (.ref pq)) 3 (.ref mq)) Z B J K.1 (fun q99 x99 => x99 = rep G a K q99) w 2 (nI s5) (nI t5) cs hd (by omega) hO) (gV pw_158 pw_159 pw_160 pw_63 pw_128) hV_X0_give qr26 0 hqr27 rfl rfl rfl (Nat.le_of_ble_eq_true rfl) dX0_variableValue_94 ⟨(by show 0 + 0 ≤ 1; omega), (by show 0 + 0 ≤ 6; omega)⟩ ⟨(by show 3 + 1 ≤ (5 * n + 33); omega), (by show 8 + (4 + 11) + 83 ≤ (200 * n + 560); omega)⟩ (fun v25 u23 H locs hw24 hP hD hS => ?_)
      obtain ⟨w, _⟩ := u23
      obtain ⟨hw24, hO⟩ := hw24
      obtain rfl : v25 = some (.int (nI t5)) := hw24
      have hO : OKP G h0 a (upd (upd (upd (upd (upd F 2 (nI sz)) 5 (nI (cs + 1))) 7 (nI hd)) 12 (nI vr)) 13 as9) (updR (updR R 2 (.ref pq)) 3 (.ref mq)) Z (updA (updA (updA (updA B 16 (upd ((B 16)) cs 2)) 17 (upd ((B 17)) cs (nI s5))) 18 (upd ((B 18)) cs 0)) 19 (upd ((B 19)) cs (nI hd))) J K w := hO.to rfl
      refine W.widen (k := 0) (n := 0) (Nat.le_of_ble_eq_true rfl) (Nat.le_of_ble_eq_true rfl) ?_
      refine W.eq (g2 := F0 m 97 ls [.int (nI t5)]) rfl ?_
      have hsw28 : ∀ x9 : Nat, x9 < cs → (upd ((B 16)) cs 2) x9 = B 16 x9 := fun x9 hx9 => (if_neg (by omega)).trans ((fun _ _ => rfl) x9 hx9)
      have hsw29 : ∀ x9 : Nat, x9 < cs → (upd ((B 17)) cs (nI s5)) x9 = B 17 x9 := fun x9 hx9 => (if_neg (by omega)).trans ((fun _ _ => rfl) x9 hx9)
      have hsw30 : ∀ x9 : Nat, x9 < cs → (upd ((B 18)) cs 0) x9 = B 18 x9 := fun x9 hx9 => (if_neg (by omega)).trans ((fun _ _ => rfl) x9 hx9)
      have hsw31 : ∀ x9 : Nat, x9 < cs → (upd ((B 19)) cs (nI hd)) x9 = B 19 x9 := fun x9 hx9 => (if_neg (by omega)).trans ((fun _ _ => rfl) x9 hx9)
      obtain ⟨Ag32, hev33⟩ : ∃ A5 : Nat → AS, okA → EvQ pb.1 pb.2.1 pb.2.2.1 pb.2.2.2 (B 16) (B 17) (B 18) (B 19) (upd ((B 16)) cs 2) (upd ((B 17)) cs (nI s5)) (upd ((B 18)) cs 0) (upd ((B 19)) cs (nI hd)) Ag A5 pd m9 sn lo cs (cs + 1) as9 as9 hd sl ((tyc t5) :: os) := ⟨(upS Ag (cs + 1) (rcA as9, hd, sl, ((tyc t5) :: os))), fun z => (hev0 z).trans (EmS.load0 (hev0 z).1 (by show os.length ≤ 248; omega) hsl5 hs6 (tyc_900 ht6 hna.1.1))⟩
      have hng9 : Nng (upd ((B 18)) cs 0) := Nng.set hng (k := 0) (by omega)
      have hng34 := hng9
      refine W_size (fun hz1 hz2 => ?_)
      refine vx_ret ?_
      have hz35 : SmW B (updA (updA (updA (updA B 16 (upd ((B 16)) cs 2)) 17 (upd ((B 17)) cs (nI s5))) 18 (upd ((B 18)) cs 0)) 19 (upd ((B 19)) cs (nI hd))) cs := (fun x9 hx9 => ⟨hsw28 x9 hx9, hsw29 x9 hx9, hsw30 x9 hx9, hsw31 x9 hx9⟩)
      have hz36 : BdE K K := BdE.rfl
      have hz37 : BeF K K := BeF.rfl
      have hz38 : BeL K K none := BeL.rfl
      have hz39 : BeI K K g q := BeI.rfl
      have hz40 : Bth B (updA (updA (updA (updA B 16 (upd ((B 16)) cs 2)) 17 (upd ((B 17)) cs (nI s5))) 18 (upd ((B 18)) cs 0)) 19 (upd ((B 19)) cs (nI hd))) := (show Thx (upd (upd (upd (upd (upd F 2 (nI sz)) 5 (nI cs)) 7 (nI hd)) 12 (nI vr)) 13 as9) (upd (upd (upd (upd (upd (upd F 2 (nI sz)) 5 (nI cs)) 7 (nI hd)) 12 (nI vr)) 13 as9) 5 (nI (cs + 1))) B (updA (updA (updA (updA B 16 (upd ((B 16)) cs 2)) 17 (upd ((B 17)) cs (nI s5))) 18 (upd ((B 18)) cs 0)) 19 (upd ((B 19)) cs (nI hd))) from (Thx.b (Thx.b8 (Thx.b (Thx.b (Thx.f Thx.rfl (by omega)) (by omega) (by decide)) (by omega) (by decide)) hng34) (by omega) (by decide))).2
      have hz41 : BeR B (updA (updA (updA (updA B 16 (upd ((B 16)) cs 2)) 17 (upd ((B 17)) cs (nI s5))) 18 (upd ((B 18)) cs 0)) 19 (upd ((B 19)) cs (nI hd))) := (BeR.up (k := 19) (f := (upd ((B 19)) cs (nI hd))) (BeR.up (k := 18) (f := (upd ((B 18)) cs 0)) (BeR.up (k := 17) (f := (upd ((B 17)) cs (nI s5))) (BeR.up (k := 16) (f := (upd ((B 16)) cs 2)) BeR.rfl (by omega)) (by omega)) (by omega)) (by omega))
      have hz42 : t5 < 128 := (by omega)
      have hz43 : cs ≤ (cs + 1) ∧ (cs + 1) + 0 ≤ cs + 2 * tlE g q := (by omega)
      have hz44 : AsE as9 as9 := AsE.rfl
      have hz45 : okA → PlQ pb B (updA (updA (updA (updA B 16 (upd ((B 16)) cs 2)) 17 (upd ((B 17)) cs (nI s5))) 18 (upd ((B 18)) cs 0)) 19 (upd ((B 19)) cs (nI hd))) Ag Ag32 pd m9 sn lo cs (cs + 1) as9 as9 hd sl os t5 (K.2.1 0 q) := (fun z => by by_cases e9 : t5 = 63; exact Or.inl ⟨e9, by rw [hkq]; unfold CaK; decide⟩; (have h9 := hev33 z; rw [tyc_ne e9] at h9; exact Or.inr ⟨by rw [rsO_ne e9]; exact h9, by omega⟩))
      have hO : OKP G h0 a (upd (upd (upd (upd (upd (upd (upd F 2 (nI sz)) 5 (nI (cs + 1))) 7 (nI hd)) 12 (nI vr)) 13 as9) 14 (F 14)) 15 (F 15)) (updR (updR R 2 (.ref pq)) 3 (.ref mq)) Z (updA (updA (updA (updA B 16 (upd ((B 16)) cs 2)) 17 (upd ((B 17)) cs (nI s5))) 18 (upd ((B 18)) cs 0)) 19 (upd ((B 19)) cs (nI hd))) J K w := hO.to rfl
      refine W.widen (k := 1) (n := 6) (by omega) (by omega) ?_
      have hzz1 : H.size ≤ s.heap.size + (0) := (by have z : 0 ≤ 0 := (by omega); omega)
      have hzz2 : hSl H ≤ hSl s.heap + (0) := (by have z : 0 ≤ 0 := (by omega); omega)
      exact W.iret (v := (nI t5)) hx hb hr (fun t99 ht99 hW99 => ⟨⟨_, (w, (K, (updA (updA (updA (updA B 16 (upd ((B 16)) cs 2)) 17 (upd ((B 17)) cs (nI s5))) 18 (upd ((B 18)) cs 0)) 19 (upd ((B 19)) cs (nI hd))), (cs + 1), as9, (F 14), (F 15), t5, Ag32)), rfl, ⟨rfl, hz35, hz36, hz37, hz38, hz39, hz40, hz41, hz42, hz43, hz44, hz45, hO⟩, by rw [ht99]; exact hP, hD, by rw [ht99]; exact hzz1, by rw [ht99]; exact hzz2⟩, hS.F ht99⟩) hS.2.2 dX0_variableValue_97
    · refine lv_aload_n hx hb dX0_variableValue_67 rfl (lv_at hl 1 rfl) ?_
      refine c_get (v := .ref (a 1)) (C := RX0) (Tc := TX0) (N := 13) (ci := 0) hx hb hq pin_wsX00 hown hE hP hO 24 (sg_24 G h0 a _ _ _ _ _) rfl 0 (by decide) (hq _ pw_4) (fun _ h9 => h9) rfl dX0_variableValue_68 ?_
      refine lv_bipush (v := 13) hx hb dX0_variableValue_71 (by decide) ?_
      refine lv_aload_n hx hb dX0_variableValue_73 rfl (lv_at hl 2 rfl) ?_
      refine p_get (v := .int (K.2.1 1 q)) (C := RX7) (Tc := TX7) (N := 11) (ci := 13) hx hb hq pin_wsX70 hown hE hP hO (by rw [hqT]; decide) (rep_1 hqT) rfl 1 (by decide) (hq _ pw_81) (fun _ h9 => h9) rfl dX0_variableValue_74 ?_
      have hO : OKW G h0 a (upd (upd (upd (upd (upd (upd F 2 (nI sz)) 5 (nI cs)) 7 (nI hd)) 12 (nI vr)) 13 as9) 2 (nI sz)) (updR (updR R 2 (.ref pq)) 3 (.ref mq)) Z B J K.1 (fun q99 x99 => x99 = rep G a K q99) w := hO.to rfl
      obtain ⟨_, qr49, hqr50⟩ := hO.2.1 2 _ (sg_2 G h0 a _ _ _ _ _)
      refine pn_V0 (G := G) (As := [.int 13, .int (K.2.1 1 q)]) (rest := []) hx hb hml hown hq hE hX pX0_al hP hD hS hA hl.1 (K_fail l G h0 a (upd (upd (upd (upd (upd F 2 (nI sz)) 5 (nI cs)) 7 (nI hd)) 12 (nI vr)) 13 as9) (updR (updR R 2 (.ref pq)) 3 (.ref mq)) Z B J K.1 (fun q99 x99 => x99 = rep G a K q99) w 13 (K.2.1 1 q) sz (by omega) hO hl0) (gV pw_64 pw_65 pw_66 pw_59 pw_43) hV_X10_fail qr49 7 hqr50 rfl rfl rfl (Nat.le_of_ble_eq_true rfl) dX0_variableValue_77 ⟨(by show 0 + 1 ≤ 1; omega), (by show 0 + 6 ≤ 6; omega)⟩ ⟨(by show 6 + 1 ≤ (5 * n + 33); omega), (by show 8 + (3 + 11) + 100 ≤ (200 * n + 560); omega)⟩ (fun v48 u46 H locs hw47 hP hD hS => hw47.elim) (fun ux ce9 q9 H9 locs9 hux hP9 hD9 hS9 hce hcv hcl => pb_out ux (ThQ.up (Thx.same Thx.rfl rfl) RhX.rfl hux) hnt hlocks hce hcv hcl hP9 hD9 hS9 (by show 0 + 1 ≤ 1; omega) (by show 0 + 6 ≤ 6; omega))
  · refine lv_aload_n hx hb dX0_variableValue_21 rfl (lv_at hl 1 rfl) ?_
    refine c_get (v := .ref (a 2)) (C := RX0) (Tc := TX0) (N := 13) (ci := 0) hx hb hq pin_wsX00 hown hE hP hO 24 (sg_24 G h0 a _ _ _ _ _) rfl 1 (by decide) (hq _ pw_5) (fun _ h9 => h9) rfl dX0_variableValue_22 ?_
    refine lv_iconst (v := 2) hx hb dX0_variableValue_25 (by decide) ?_
    refine lv_iconst (v := 0) hx hb dX0_variableValue_26 (by decide) ?_
    refine lv_iconst (v := 0) hx hb dX0_variableValue_27 (by decide) ?_
    have hO : OKW G h0 a (upd (upd (upd (upd (upd (upd (upd F 2 (nI sz)) 5 (nI cs)) 7 (nI hd)) 12 (nI vr)) 13 as9) 5 (nI cs)) 7 (nI hd)) (updR (updR R 2 (.ref pq)) 3 (.ref mq)) Z B J K.1 (fun q99 x99 => x99 = rep G a K q99) w := hO.to rfl
    obtain ⟨_, qr54, hqr55⟩ := hO.2.1 13 _ (sg_13 G h0 a _ _ _ _ _)
    refine pc_V0 (G := G) (As := [.int 2, .int 0, .int 0]) (rest := []) hx hb hml hown hq hE hX pX0_al hP hD hS hA hl.1 (Y_emit l G h0 a (upd (upd (upd (upd (upd F 2 (nI sz)) 5 (nI cs)) 7 (nI hd)) 12 (nI vr)) 13 as9) (updR (updR R 2 (.ref pq)) 3 (.ref mq)) Z B J K.1 (fun q99 x99 => x99 = rep G a K q99) w 2 0 0 cs hd (by omega) hO) (gV pw_129 pw_130 pw_131 pw_70 pw_115) hV_X1_emit qr54 1 hqr55 rfl rfl rfl (Nat.le_of_ble_eq_true rfl) dX0_variableValue_28 ⟨(by show 0 + 0 ≤ 1; omega), (by show 0 + 0 ≤ 6; omega)⟩ ⟨(by show 2 + 1 ≤ (5 * n + 33); omega), (by show 8 + (4 + 11) + 60 ≤ (200 * n + 560); omega)⟩ (fun v53 u51 H locs hw52 hP hD hS => ?_)
    obtain ⟨w, _⟩ := u51
    obtain ⟨hw52, hO⟩ := hw52
    obtain rfl : v53 = none := hw52
    have hO : OKP G h0 a (upd (upd (upd (upd (upd F 2 (nI sz)) 5 (nI (cs + 1))) 7 (nI hd)) 12 (nI vr)) 13 as9) (updR (updR R 2 (.ref pq)) 3 (.ref mq)) Z (updA (updA (updA (updA B 16 (upd ((B 16)) cs 2)) 17 (upd ((B 17)) cs 0)) 18 (upd ((B 18)) cs 0)) 19 (upd ((B 19)) cs (nI hd))) J K w := hO.to rfl
    refine W.widen (k := 0) (n := 0) (Nat.le_of_ble_eq_true rfl) (Nat.le_of_ble_eq_true rfl) ?_
    refine W.eq (g2 := F0 m 31 ls []) rfl ?_
    have hsw56 : ∀ x9 : Nat, x9 < cs → (upd ((B 16)) cs 2) x9 = B 16 x9 := fun x9 hx9 => (if_neg (by omega)).trans ((fun _ _ => rfl) x9 hx9)
    have hsw57 : ∀ x9 : Nat, x9 < cs → (upd ((B 17)) cs 0) x9 = B 17 x9 := fun x9 hx9 => (if_neg (by omega)).trans ((fun _ _ => rfl) x9 hx9)
    have hsw58 : ∀ x9 : Nat, x9 < cs → (upd ((B 18)) cs 0) x9 = B 18 x9 := fun x9 hx9 => (if_neg (by omega)).trans ((fun _ _ => rfl) x9 hx9)
    have hsw59 : ∀ x9 : Nat, x9 < cs → (upd ((B 19)) cs (nI hd)) x9 = B 19 x9 := fun x9 hx9 => (if_neg (by omega)).trans ((fun _ _ => rfl) x9 hx9)
    obtain ⟨Ag60, hev61⟩ : ∃ A5 : Nat → AS, okA → EvQ pb.1 pb.2.1 pb.2.2.1 pb.2.2.2 (B 16) (B 17) (B 18) (B 19) (upd ((B 16)) cs 2) (upd ((B 17)) cs 0) (upd ((B 18)) cs 0) (upd ((B 19)) cs (nI hd)) Ag A5 pd m9 sn lo cs (cs + 1) as9 as9 hd sl (c0 :: os) := ⟨(upS Ag (cs + 1) (rcA as9, hd, sl, (c0 :: os))), fun z => (hev0 z).trans (EmS.load0 (hev0 z).1 (by show os.length ≤ 248; omega) hen.1.2.1 (Nat.lt_of_lt_of_le Nat.zero_lt_one hen.1.1) (by have z9 := hen.1.2.2; have z8 := hna.1.1; omega))⟩
    have hng9 : Nng (upd ((B 18)) cs 0) := Nng.set hng (k := 0) (by omega)
    have hng62 := hng9
    refine lv_aload_n hx hb dX0_variableValue_31 rfl (lv_at hl 1 rfl) ?_
    refine lv_aload_n hx hb dX0_variableValue_32 rfl (lv_at hl 1 rfl) ?_
    refine c_get (v := .ref mq) (C := RX0) (Tc := TX0) (N := 13) (ci := 0) hx hb hq pin_wsX00 hown hE hP hO 24 (sg_24 G h0 a _ _ _ _ _) rfl 7 (by decide) (hq _ pw_72) (fun _ h9 => h9) rfl dX0_variableValue_33 ?_
    refine p_get (v := .ref dO) (C := RX6) (Tc := TX6) (N := 12) (ci := 12) hx hb hq pin_wsX60 hown hE hP hO (by rw [hmq]; decide) (rep_3 hmq) rfl 0 (by decide) (hq _ pw_161) (fun _ h9 => h9) (congrArg (fun z => some (va_rf z)) hdO) dX0_variableValue_36 ?_
    refine lv_aload_n hx hb dX0_variableValue_39 rfl (lv_at hl 2 rfl) ?_
    have hO : OKP G h0 a (upd (upd (upd (upd (upd (upd (upd F 2 (nI sz)) 5 (nI cs)) 7 (nI hd)) 12 (nI vr)) 13 as9) 5 (nI (cs + 1))) 2 (nI sz)) (updR (updR R 2 (.ref pq)) 3 (.ref mq)) Z (updA (updA (updA (updA B 16 (upd ((B 16)) cs 2)) 17 (upd ((B 17)) cs 0)) 18 (upd ((B 18)) cs 0)) 19 (upd ((B 19)) cs (nI hd))) J K w := hO.to rfl
    obtain ⟨_, qr66, hqr67⟩ := hO.2.1 24 _ (sg_24 G h0 a _ _ _ _ _)
    refine pn_V0 (G := G) (As := [.ref dO, .ref q]) (rest := []) hx hb hml hown hq hE hX pX0_al hP hD hS hA hl.1 (Y_fieldType l G h0 a (upd (upd (upd (upd (upd (upd F 2 (nI sz)) 5 (nI cs)) 7 (nI hd)) 12 (nI vr)) 13 as9) 5 (nI (cs + 1))) (updR (updR R 2 (.ref pq)) 3 (.ref mq)) Z (updA (updA (updA (updA B 16 (upd ((B 16)) cs 2)) 17 (upd ((B 17)) cs 0)) 18 (upd ((B 18)) cs 0)) 19 (upd ((B 19)) cs (nI hd))) J K w dO q sz dr nd c0 g pb (by omega) htO hqT (by rw [BdE.I BdE.rfl (by rw [hqT]; decide) (by decide) (by decide), hkq]; decide) hen.1.2.2 (by rw [(BdE.T9 BdE.rfl hdr0)]; exact hrO) (NaB.be BdE.rfl BeF.rfl hwp hps.2.1 hdr0 ((BeR.up (k := 19) (f := (upd ((B 19)) cs (nI hd))) (BeR.up (k := 18) (f := (upd ((B 18)) cs 0)) (BeR.up (k := 17) (f := (upd ((B 17)) cs 0)) (BeR.up (k := 16) (f := (upd ((B 16)) cs 2)) BeR.rfl (by omega)) (by omega)) (by omega)) (by omega)) 11 (by decide)) hna) hO hl0) (gV pw_162 pw_163 pw_164 pw_63 pw_147) hV_X0_fieldType qr66 0 hqr67 rfl rfl rfl (Nat.le_of_ble_eq_true rfl) dX0_variableValue_40 ⟨(by show 0 + 1 ≤ 1; omega), (by show 0 + 6 ≤ 6; omega)⟩ ⟨(by show 7 + 1 ≤ (5 * n + 33); omega), (by show 8 + (4 + 11) + 146 ≤ (200 * n + 560); omega)⟩ (fun v65 u63 H locs hw64 hP hD hS => ?_) (fun ux ce9 q9 H9 locs9 hux hP9 hD9 hS9 hce hcv hcl => pb_out ux (ThQ.up (Thx.same (Thx.b (Thx.b8 (Thx.b (Thx.b (Thx.f Thx.rfl (by omega)) (by omega) (by decide)) (by omega) (by decide)) hng62) (by omega) (by decide)) rfl) RhX.rfl hux) hnt hlocks hce hcv hcl hP9 hD9 hS9 (by show 0 + 1 ≤ 1; omega) (by show 0 + 6 ≤ 6; omega))
    obtain ⟨w, K68, t69, n70⟩ := u63
    obtain ⟨hw64, h71, h72, h73, h74, h75, h76, h77, h78, h79, hO⟩ := hw64
    have h71 : BdE K K68 := h71
    have h72 : BeF K K68 := h72
    have h73 : BeL K K68 none := h73
    have h74 : BeI K K68 g q := h74
    have h75 : K68.2.1 5 q = nI n70 := h75
    have h76 : n70 < pb.2.1 c0 ∧ n70 < 5000 := h76
    have h77 : pb.2.2.1 c0 n70 = tyc t69 := h77
    have h78 : TyV nd t69 := h78
    have h79 : t69 < 128 := h79
    obtain rfl : v65 = some (.int (nI t69)) := hw64
    have hf80 : K68.1 pq = 7 := (BdE.T h71 hp1 (by decide))
    have hf81 : K68.2.2.1 18 pq = some (a 1) := (BdE.C h71 (by rw [hp1]; decide) 18).trans hp2
    have hf82 : K68.2.2.1 14 pq = some dr := (BdE.C h71 (by rw [hp1]; decide) 14).trans hp3
    have hf83 : K68.1 dr = 8 := (BdE.T h71 hp4 (by decide))
    have hf84 : K68.2.2.1 15 pq = some ml := (BdE.C h71 (by rw [hp1]; decide) 15).trans hp5
    have hf85 : K68.1 ml = 5 := (BdE.T h71 hp6 (by decide))
    have hf86 : K68.2.1 24 pq = (nI nd) := (BdE.I h71 (by rw [hp1]; decide) (by decide) (by decide)).trans hp8
    have hf87 : K68.1 q = 1 := (BdE.T h71 hqT (by decide))
    have hf88 : K68.1 mq = 3 := (BdE.T h71 hmq (by decide))
    have hf89 : K68.2.1 15 dO = (nI c0) := (BdE.I h71 (by rw [htO]; decide) (by decide) (by decide)).trans hnO
    have hf90 : K68.2.2.1 5 mq = some dO := (BdE.C h71 (by rw [hmq]; decide) 5).trans hdO
    have hf91 : K68.1 dO = 4 := (BdE.T h71 htO (by decide))
    have hO : OKP G h0 a (upd (upd (upd (upd (upd F 2 (nI sz)) 5 (nI (cs + 1))) 7 (nI hd)) 12 (nI vr)) 13 as9) (updR (updR R 2 (.ref pq)) 3 (.ref mq)) Z (updA (updA (updA (updA B 16 (upd ((B 16)) cs 2)) 17 (upd ((B 17)) cs 0)) 18 (upd ((B 18)) cs 0)) 19 (upd ((B 19)) cs (nI hd))) J K68 w := hO.to rfl
    refine W.widen (k := 0) (n := 0) (by show 0 + 0 ≤ 0; omega) (by show 0 + 0 ≤ 0; omega) ?_
    refine W.eq (g2 := F0 m 43 ls [.int (nI t69)]) rfl ?_
    have hbe92 := BdE.trans BdE.rfl h71
    have hbf93 := BeF.trans BeF.rfl h72 BdE.rfl
    have hbl94 := BeL.trans BeL.rfl h73 BdE.rfl
    have hbi95 := BeI.trans BeI.rfl h74 BdE.rfl InE.rfl
    refine lv_istore_n (lv' := [(3, .int (nI t69)), (2, .int r11), (0, .ref (a 4)), (1, .ref q)]) hx hb dX0_variableValue_43 rfl hl (by decide) rfl (fun ls hl => ?_)
    refine lv_aload_n hx hb dX0_variableValue_44 rfl (lv_at hl 2 rfl) ?_
    refine lv_bipush (v := 17) hx hb dX0_variableValue_45 (by decide) ?_
    refine lv_aload_n hx hb dX0_variableValue_47 rfl (lv_at hl 3 rfl) ?_
    refine p_get (v := .int (nI n70)) (C := RX7) (Tc := TX7) (N := 11) (ci := 13) hx hb hq pin_wsX70 hown hE hP hO (by rw [hf87]; decide) (rep_1 hf87) rfl 5 (by decide) (hq _ pw_142) (fun _ h9 => h9) (congrArg (fun z => some (Value.int z)) h75) dX0_variableValue_48 ?_
    refine lv_iload_n hx hb dX0_variableValue_51 rfl (lv_at hl 0 rfl) ?_
    have hO : OKW G h0 a (upd (upd (upd (upd (upd (upd (upd F 2 (nI sz)) 5 (nI (cs + 1))) 7 (nI hd)) 12 (nI vr)) 13 as9) 5 (nI (cs + 1))) 7 (nI hd)) (updR (updR R 2 (.ref pq)) 3 (.ref mq)) Z (updA (updA (updA (updA B 16 (upd ((B 16)) cs 2)) 17 (upd ((B 17)) cs 0)) 18 (upd ((B 18)) cs 0)) 19 (upd ((B 19)) cs (nI hd))) J K68.1 (fun q99 x99 => x99 = rep G a K68 q99) w := hO.to rfl
    obtain ⟨_, qr99, hqr100⟩ := hO.2.1 24 _ (sg_24 G h0 a _ _ _ _ _)
    refine pc_V0 (G := G) (As := [.int 17, .int (nI n70), .int (nI t69)]) (rest := []) hx hb hml hown hq hE hX pX0_al hP hD hS hA hl.1 (Y_give l G h0 a (upd (upd (upd (upd (upd F 2 (nI sz)) 5 (nI (cs + 1))) 7 (nI hd)) 12 (nI vr)) 13 as9) (updR (updR R 2 (.ref pq)) 3 (.ref mq)) Z (updA (updA (updA (updA B 16 (upd ((B 16)) cs 2)) 17 (upd ((B 17)) cs 0)) 18 (upd ((B 18)) cs 0)) 19 (upd ((B 19)) cs (nI hd))) J K68.1 (fun q99 x99 => x99 = rep G a K68 q99) w 17 (nI n70) (nI t69) (cs + 1) hd (by omega) hO) (gV pw_158 pw_159 pw_160 pw_63 pw_128) hV_X0_give qr99 0 hqr100 rfl rfl rfl (Nat.le_of_ble_eq_true rfl) dX0_variableValue_52 ⟨(by show 0 + 0 ≤ 1; omega), (by show 0 + 0 ≤ 6; omega)⟩ ⟨(by show 3 + 1 ≤ (5 * n + 33); omega), (by show 8 + (4 + 11) + 83 ≤ (200 * n + 560); omega)⟩ (fun v98 u96 H locs hw97 hP hD hS => ?_)
    obtain ⟨w, _⟩ := u96
    obtain ⟨hw97, hO⟩ := hw97
    obtain rfl : v98 = some (.int (nI t69)) := hw97
    have hO : OKP G h0 a (upd (upd (upd (upd (upd F 2 (nI sz)) 5 (nI ((cs + 1) + 1))) 7 (nI hd)) 12 (nI vr)) 13 as9) (updR (updR R 2 (.ref pq)) 3 (.ref mq)) Z (updA (updA (updA (updA B 16 (upd ((upd ((B 16)) cs 2)) (cs + 1) 17)) 17 (upd ((upd ((B 17)) cs 0)) (cs + 1) (nI n70))) 18 (upd ((upd ((B 18)) cs 0)) (cs + 1) 0)) 19 (upd ((upd ((B 19)) cs (nI hd))) (cs + 1) (nI hd))) J K68 w := hO.to rfl
    refine W.widen (k := 0) (n := 0) (Nat.le_of_ble_eq_true rfl) (Nat.le_of_ble_eq_true rfl) ?_
    refine W.eq (g2 := F0 m 55 ls [.int (nI t69)]) rfl ?_
    have hsw101 : ∀ x9 : Nat, x9 < cs → (upd ((upd ((B 16)) cs 2)) (cs + 1) 17) x9 = B 16 x9 := fun x9 hx9 => (if_neg (by omega)).trans (hsw56 x9 hx9)
    have hsw102 : ∀ x9 : Nat, x9 < cs → (upd ((upd ((B 17)) cs 0)) (cs + 1) (nI n70)) x9 = B 17 x9 := fun x9 hx9 => (if_neg (by omega)).trans (hsw57 x9 hx9)
    have hsw103 : ∀ x9 : Nat, x9 < cs → (upd ((upd ((B 18)) cs 0)) (cs + 1) 0) x9 = B 18 x9 := fun x9 hx9 => (if_neg (by omega)).trans (hsw58 x9 hx9)
    have hsw104 : ∀ x9 : Nat, x9 < cs → (upd ((upd ((B 19)) cs (nI hd))) (cs + 1) (nI hd)) x9 = B 19 x9 := fun x9 hx9 => (if_neg (by omega)).trans (hsw59 x9 hx9)
    obtain ⟨Ag105, hev106⟩ : ∃ A5 : Nat → AS, okA → EvQ pb.1 pb.2.1 pb.2.2.1 pb.2.2.2 (B 16) (B 17) (B 18) (B 19) (upd ((upd ((B 16)) cs 2)) (cs + 1) 17) (upd ((upd ((B 17)) cs 0)) (cs + 1) (nI n70)) (upd ((upd ((B 18)) cs 0)) (cs + 1) 0) (upd ((upd ((B 19)) cs (nI hd))) (cs + 1) (nI hd)) Ag A5 pd m9 sn lo cs ((cs + 1) + 1) as9 as9 hd sl ((tyc t69) :: os) := ⟨(upS Ag60 ((cs + 1) + 1) (rcA as9, hd, sl, ((tyc t69) :: os))), fun z => (hev61 z).trans (EmS.fieldT (hev61 z).1 (by show os.length + 1 ≤ 248; omega) (by have z9 := hen.1.2.2; have z8 := hna.1.1; omega) h76.1 h77)⟩
    have hng9 : Nng (upd ((upd ((B 18)) cs 0)) (cs + 1) 0) := Nng.set hng62 (k := 0) (by omega)
    have hng107 := hng9
    refine W_size (fun hz1 hz2 => ?_)
    refine vx_ret ?_
    have hz108 : SmW B (updA (updA (updA (updA B 16 (upd ((upd ((B 16)) cs 2)) (cs + 1) 17)) 17 (upd ((upd ((B 17)) cs 0)) (cs + 1) (nI n70))) 18 (upd ((upd ((B 18)) cs 0)) (cs + 1) 0)) 19 (upd ((upd ((B 19)) cs (nI hd))) (cs + 1) (nI hd))) cs := (fun x9 hx9 => ⟨hsw101 x9 hx9, hsw102 x9 hx9, hsw103 x9 hx9, hsw104 x9 hx9⟩)
    have hz109 : BdE K K68 := hbe92
    have hz110 : BeF K K68 := hbf93
    have hz111 : BeL K K68 none := hbl94
    have hz112 : BeI K K68 g q := hbi95
    have hz113 : Bth B (updA (updA (updA (updA B 16 (upd ((upd ((B 16)) cs 2)) (cs + 1) 17)) 17 (upd ((upd ((B 17)) cs 0)) (cs + 1) (nI n70))) 18 (upd ((upd ((B 18)) cs 0)) (cs + 1) 0)) 19 (upd ((upd ((B 19)) cs (nI hd))) (cs + 1) (nI hd))) := (show Thx (upd (upd (upd (upd (upd F 2 (nI sz)) 5 (nI cs)) 7 (nI hd)) 12 (nI vr)) 13 as9) (upd (upd (upd (upd (upd (upd F 2 (nI sz)) 5 (nI cs)) 7 (nI hd)) 12 (nI vr)) 13 as9) 5 (nI ((cs + 1) + 1))) B (updA (updA (updA (updA B 16 (upd ((upd ((B 16)) cs 2)) (cs + 1) 17)) 17 (upd ((upd ((B 17)) cs 0)) (cs + 1) (nI n70))) 18 (upd ((upd ((B 18)) cs 0)) (cs + 1) 0)) 19 (upd ((upd ((B 19)) cs (nI hd))) (cs + 1) (nI hd))) from (Thx.b (Thx.b8 (Thx.b (Thx.b (Thx.f Thx.rfl (by omega)) (by omega) (by decide)) (by omega) (by decide)) hng107) (by omega) (by decide))).2
    have hz114 : BeR B (updA (updA (updA (updA B 16 (upd ((upd ((B 16)) cs 2)) (cs + 1) 17)) 17 (upd ((upd ((B 17)) cs 0)) (cs + 1) (nI n70))) 18 (upd ((upd ((B 18)) cs 0)) (cs + 1) 0)) 19 (upd ((upd ((B 19)) cs (nI hd))) (cs + 1) (nI hd))) := (BeR.up (k := 19) (f := (upd ((upd ((B 19)) cs (nI hd))) (cs + 1) (nI hd))) (BeR.up (k := 18) (f := (upd ((upd ((B 18)) cs 0)) (cs + 1) 0)) (BeR.up (k := 17) (f := (upd ((upd ((B 17)) cs 0)) (cs + 1) (nI n70))) (BeR.up (k := 16) (f := (upd ((upd ((B 16)) cs 2)) (cs + 1) 17)) BeR.rfl (by omega)) (by omega)) (by omega)) (by omega))
    have hz115 : t69 < 128 := (by omega)
    have hz116 : cs ≤ ((cs + 1) + 1) ∧ ((cs + 1) + 1) + 0 ≤ cs + 2 * tlE g q := (by omega)
    have hz117 : AsE as9 as9 := AsE.rfl
    have hz118 : okA → PlQ pb B (updA (updA (updA (updA B 16 (upd ((upd ((B 16)) cs 2)) (cs + 1) 17)) 17 (upd ((upd ((B 17)) cs 0)) (cs + 1) (nI n70))) 18 (upd ((upd ((B 18)) cs 0)) (cs + 1) 0)) 19 (upd ((upd ((B 19)) cs (nI hd))) (cs + 1) (nI hd))) Ag Ag105 pd m9 sn lo cs ((cs + 1) + 1) as9 as9 hd sl os t69 (K.2.1 0 q) := (fun z => by by_cases e9 : t69 = 63; exact Or.inl ⟨e9, by rw [hkq]; unfold CaK; decide⟩; (have h9 := hev106 z; rw [tyc_ne e9] at h9; exact Or.inr ⟨by rw [rsO_ne e9]; exact h9, by omega⟩))
    have hO : OKP G h0 a (upd (upd (upd (upd (upd (upd (upd F 2 (nI sz)) 5 (nI ((cs + 1) + 1))) 7 (nI hd)) 12 (nI vr)) 13 as9) 14 (F 14)) 15 (F 15)) (updR (updR R 2 (.ref pq)) 3 (.ref mq)) Z (updA (updA (updA (updA B 16 (upd ((upd ((B 16)) cs 2)) (cs + 1) 17)) 17 (upd ((upd ((B 17)) cs 0)) (cs + 1) (nI n70))) 18 (upd ((upd ((B 18)) cs 0)) (cs + 1) 0)) 19 (upd ((upd ((B 19)) cs (nI hd))) (cs + 1) (nI hd))) J K68 w := hO.to rfl
    refine W.widen (k := 1) (n := 6) (by omega) (by omega) ?_
    have hzz1 : H.size ≤ s.heap.size + (0) := (by have z : 0 ≤ 0 := (by omega); omega)
    have hzz2 : hSl H ≤ hSl s.heap + (0) := (by have z : 0 ≤ 0 := (by omega); omega)
    exact W.iret (v := (nI t69)) hx hb hr (fun t99 ht99 hW99 => ⟨⟨_, (w, (K68, (updA (updA (updA (updA B 16 (upd ((upd ((B 16)) cs 2)) (cs + 1) 17)) 17 (upd ((upd ((B 17)) cs 0)) (cs + 1) (nI n70))) 18 (upd ((upd ((B 18)) cs 0)) (cs + 1) 0)) 19 (upd ((upd ((B 19)) cs (nI hd))) (cs + 1) (nI hd))), ((cs + 1) + 1), as9, (F 14), (F 15), t69, Ag105)), rfl, ⟨rfl, hz108, hz109, hz110, hz111, hz112, hz113, hz114, hz115, hz116, hz117, hz118, hO⟩, by rw [ht99]; exact hP, hD, by rw [ht99]; exact hzz1, by rw [ht99]; exact hzz2⟩, hS.F ht99⟩) hS.2.2 dX0_variableValue_55
set_option maxHeartbeats 24000000 in
set_option maxRecDepth 100000 in
theorem Y_single (l : Launch) (G : pT) (h0 : Nat) (a : Nat → Nat) (F : Nat → Int32) (R : Nat → Value) (Z : Int64) (B : Nat → Nat → Int32) (J : Nat → Nat → Int64) (K : PK) (w : va_W) (pq : Nat) (dr : Nat) (ml : Nat) (nd : Nat) (nm : Nat) (cp : Nat) (it : Nat → Nat) (s9 : Nat) (q : Nat) (mq : Nat) (cs : Nat) (vr : Nat) (sz : Nat) (n : Nat) (g : Nat → Nat → Nat) (rk : Nat → Nat) (pb : PNb) (Ag : Nat → AS) (pd : Nat → Prop) (sl : Nat → Nat) (os : List Nat) (m9 : Nat) (sn : Nat) (lo : Nat) (hd : Nat) (c0 : Nat) (as9 : Int32) (okA : Prop) (hsz : sz ≤ 5000) (hwp : WPr G K g) (hps : PgT G K g (a 1) pq dr ml nd nm cp it s9) (hrk : RkO K rk) (hcs : cs ≤ 10000) (hvr : vr ≤ 30) (hng : Nng (B 18)) (hmq : K.1 mq = 3) (hqT : K.1 q = 1) (hqL : 1 ≤ g 0 q ∧ g 0 q ≤ n) (hek : EkA pb K g (B 7) (B 11) sz) (hcO : OwC K dr mq c0) (hna : NaB pb G K (B 11) dr nd sz) (hen : EnV (B 26) (B 27) nd vr hd c0 sl) (hem : okA → EmB pb B Ag pd m9 sn lo cs as9 hd sl os) (hrm : cs + 2 * tlE g q ≤ 10000) (hop : os.length + ndE g q ≤ 248) (hlf : 1 ≤ tlE g q ∧ 1 ≤ ndE g q) (hck : ¬ CaK (K.2.1 0 q)) (hob : ObK pb K (B 11) sz q) (hO : OKP G h0 a (upd (upd (upd (upd (upd F 2 (nI sz)) 5 (nI cs)) 7 (nI hd)) 12 (nI vr)) 13 as9) (updR (updR R 2 (.ref pq)) 3 (.ref mq)) Z B J K w) (hl0 : l.stackTraces = false) : PBn l G pX0 yX0_single cX0_single 2 (some .int) ({ frames := (5 * n + 33), cells := 1, slots := 6, locals := (200 * n + 560) }) [.ref (a 4), .ref q] w (fun (v : Option Value) (u : va_W × (PK × (Nat → Nat → Int32) × Nat × Int32 × Int32 × Int32 × Nat × (Nat → AS))) => v = some (.int (nI u.2.2.2.2.2.2.2.1)) ∧ (SmW B u.2.2.1 cs) ∧ (BdE K u.2.1) ∧ (BeF K u.2.1) ∧ (BeL K u.2.1 none) ∧ (BeI K u.2.1 g q) ∧ (Bth B u.2.2.1) ∧ (BeR B u.2.2.1) ∧ (u.2.2.2.2.2.2.2.1 < 128) ∧ (cs ≤ u.2.2.2.1 ∧ u.2.2.2.1 + 0 ≤ cs + 2 * tlE g q) ∧ (AsE as9 u.2.2.2.2.1) ∧ (okA → PlQ pb B u.2.2.1 Ag u.2.2.2.2.2.2.2.2 pd m9 sn lo cs u.2.2.2.1 as9 u.2.2.2.2.1 hd sl os u.2.2.2.2.2.2.2.1 (K.2.1 0 q)) ∧ (OKP G h0 a (upd (upd (upd (upd (upd (upd (upd F 2 (nI sz)) 5 (nI u.2.2.2.1)) 7 (nI hd)) 12 (nI vr)) 13 u.2.2.2.2.1) 14 u.2.2.2.2.2.1) 15 u.2.2.2.2.2.2.1) (updR (updR R 2 (.ref pq)) 3 (.ref mq)) Z u.2.2.1 J u.2.1 u.1)) (fun u => u.1) (fun (u : va_W × (PK × (Nat → Nat → Int32) × Nat × Int32 × Int32 × Int32 × Nat × (Nat → AS))) => 0) (fun (u : va_W × (PK × (Nat → Nat → Int32) × Nat × Int32 × Int32 × Int32 × Nat × (Nat → AS))) => 0) (fun (u : va_W × (Nat → Int32) × (Nat → Value) × (Nat → Nat → Int32)) => ThQ G h0 a (upd (upd (upd (upd (upd F 2 (nI sz)) 5 (nI cs)) 7 (nI hd)) 12 (nI vr)) 13 as9) (updR (updR R 2 (.ref pq)) 3 (.ref mq)) Z B J u) (fun u => u.1) := by
  intro sz
  refine vx_ofW (cc := cX0_single) (maxL := 2) (ret := (some .int)) (by decide) rfl ?_
  intro p e s m args below meth c s₁ B9 hml hnt hv
  obtain ⟨rfl, hsz, hP, hD0, hE, hX⟩ := hv
  have hx := B9.exec
  have hb := B9.bytes
  have hr := B9.returns
  have hts := atoms_spec (ws := Cond.code yX0_single cX0_single 2 (some .int) :: pw) B9.pre
  have hq : ∀ w ∈ pw, w.before _ s = true := fun w h => hts w (List.mem_cons_of_mem _ h)
  have hown : s.vm.findClass RX0 = some m.cls := findClass_of_methodNamed B9.named
  have hlocks := B9.notSynchronized
  subst hsz
  have hD := hD0.self (sz := s.heap.size)
  have hA : ∀ q : Nat, s.heap.size ≤ q → va_A w s.heap.size q := fun q h => Or.inr h
  generalize va_A w s.heap.size = A at hD hE hA ⊢
  have hS : va_S A s.heap s.heap [] := va_S.rf
  have hl := lv_entry ([.ref (a 4), .ref q]) (n := 2) (Nat.le_of_ble_eq_true rfl)
  rw [lg_entry_eq]
  generalize (lg_sl ([.ref (a 4), .ref q]) ++ List.replicate (2 - (lg_sl ([.ref (a 4), .ref q])).length) Slot.unset).toArray = ls at hl ⊢
  have hl : lv_has ls 2 [(0, .ref (a 4)), (1, .ref q)] := hl
  have hpg := hps.1
  have hp1 := hpg.1
  have hp2 := hpg.2.1
  have hp3 := hpg.2.2.1
  have hp4 := hpg.2.2.2.1
  have hp5 := hpg.2.2.2.2.1
  have hp6 := hpg.2.2.2.2.2.1
  have hp8 := hpg.2.2.2.2.2.2.2.1
  have hp9 := hpg.2.2.2.2.2.2.2.2
  have hdr0 : ¬ K.1 dr = 0 := by rw [hp4]; decide
  have hcO9 := hcO
  obtain ⟨dO, hdO, htO, hrO, hnO⟩ := hcO9
  have hev0 : okA → EvQ pb.1 pb.2.1 pb.2.2.1 pb.2.2.2 (B 16) (B 17) (B 18) (B 19) (B 16) (B 17) (B 18) (B 19) Ag Ag pd m9 sn lo cs cs as9 as9 hd sl os := fun z => EvB.nil (hem z)
  obtain ⟨kd, hkd⟩ : ∃ z : Int32, K.2.1 0 q = z := ⟨_, rfl⟩
  obtain ⟨tk, htk⟩ : ∃ z : Int32, K.2.1 1 q = z := ⟨_, rfl⟩
  refine lv_aload_n hx hb dX0_single_0 rfl (lv_at hl 1 rfl) ?_
  refine p_get (v := .int kd) (C := RX7) (Tc := TX7) (N := 11) (ci := 13) hx hb hq pin_wsX70 hown hE hP hO (by rw [hqT]; decide) (rep_1 hqT) rfl 0 (by decide) (hq _ pw_166) (fun _ h9 => h9) (congrArg (fun z => some (Value.int z)) hkd) dX0_single_1 ?_
  by_cases h1 : kd = 0
  · subst h1
    refine lv_tableIn (tgt := 56) (off := 52) hx hb dX0_single_4 (by decide) (by decide) (by decide) (by decide) ?_
    refine lv_aload_n hx hb dX0_single_56 rfl (lv_at hl 0 rfl) ?_
    refine lv_iconst (v := 1) hx hb dX0_single_57 (by decide) ?_
    refine lv_aload_n hx hb dX0_single_58 rfl (lv_at hl 0 rfl) ?_
    refine c_get (v := .ref (a 1)) (C := RX0) (Tc := TX0) (N := 13) (ci := 0) hx hb hq pin_wsX00 hown hE hP hO 24 (sg_24 G h0 a _ _ _ _ _) rfl 0 (by decide) (hq _ pw_4) (fun _ h9 => h9) rfl dX0_single_59 ?_
    refine lv_aload_n hx hb dX0_single_62 rfl (lv_at hl 1 rfl) ?_
    refine p_get (v := .int tk) (C := RX7) (Tc := TX7) (N := 11) (ci := 13) hx hb hq pin_wsX70 hown hE hP hO (by rw [hqT]; decide) (rep_1 hqT) rfl 1 (by decide) (hq _ pw_81) (fun _ h9 => h9) (congrArg (fun z => some (Value.int z)) htk) dX0_single_63 ?_
    have hO : OKW G h0 a (upd (upd (upd (upd (upd (upd F 2 (nI sz)) 5 (nI cs)) 7 (nI hd)) 12 (nI vr)) 13 as9) 2 (nI sz)) (updR (updR R 2 (.ref pq)) 3 (.ref mq)) Z B J K.1 (fun q99 x99 => x99 = rep G a K q99) w := hO.to rfl
    obtain ⟨_, qr5, hqr6⟩ := hO.2.1 2 _ (sg_2 G h0 a _ _ _ _ _)
    refine pc_V0 (G := G) (As := [.int tk]) (rest := [.int 1, .ref (a 4)]) hx hb hml hown hq hE hX pX0_al hP hD hS hA hl.1 (Y_valueAt l G h0 a (upd (upd (upd (upd (upd F 2 (nI sz)) 5 (nI cs)) 7 (nI hd)) 12 (nI vr)) 13 as9) (updR (updR R 2 (.ref pq)) 3 (.ref mq)) Z B J K.1 (fun q99 x99 => x99 = rep G a K q99) w tk sz (by omega) hO) (gV pw_56 pw_57 pw_58 pw_59 pw_39) hV_X10_valueAt qr5 7 hqr6 rfl rfl rfl (Nat.le_of_ble_eq_true rfl) dX0_single_66 ⟨(by show 0 + 0 ≤ 1; omega), (by show 0 + 0 ≤ 6; omega)⟩ ⟨(by show 2 + 1 ≤ (5 * n + 33); omega), (by show 8 + (2 + 11) + 60 ≤ (200 * n + 560); omega)⟩ (fun v4 u2 H locs hw3 hP hD hS => ?_)
    obtain ⟨w, _⟩ := u2
    obtain ⟨hw3, hO⟩ := hw3
    obtain rfl : v4 = some (.int (tkN ((B 9)) sz (-1) tk)) := hw3
    have hO : OKP G h0 a (upd (upd (upd (upd (upd F 2 (nI sz)) 5 (nI cs)) 7 (nI hd)) 12 (nI vr)) 13 as9) (updR (updR R 2 (.ref pq)) 3 (.ref mq)) Z B J K w := hO.to rfl
    refine W.widen (k := 0) (n := 0) (Nat.le_of_ble_eq_true rfl) (Nat.le_of_ble_eq_true rfl) ?_
    refine W.eq (g2 := F0 m 69 ls [.int (tkN ((B 9)) sz (-1) tk), .int 1, .ref (a 4)]) rfl ?_
    refine lv_bipush (v := 60) hx hb dX0_single_69 (by decide) ?_
    have hO : OKW G h0 a (upd (upd (upd (upd (upd (upd (upd F 2 (nI sz)) 5 (nI cs)) 7 (nI hd)) 12 (nI vr)) 13 as9) 5 (nI cs)) 7 (nI hd)) (updR (updR R 2 (.ref pq)) 3 (.ref mq)) Z B J K.1 (fun q99 x99 => x99 = rep G a K q99) w := hO.to rfl
    obtain ⟨_, qr10, hqr11⟩ := hO.2.1 24 _ (sg_24 G h0 a _ _ _ _ _)
    refine pc_V0 (G := G) (As := [.int 1, .int (tkN ((B 9)) sz (-1) tk), .int 60]) (rest := []) hx hb hml hown hq hE hX pX0_al hP hD hS hA hl.1 (Y_give l G h0 a (upd (upd (upd (upd (upd F 2 (nI sz)) 5 (nI cs)) 7 (nI hd)) 12 (nI vr)) 13 as9) (updR (updR R 2 (.ref pq)) 3 (.ref mq)) Z B J K.1 (fun q99 x99 => x99 = rep G a K q99) w 1 (tkN ((B 9)) sz (-1) tk) 60 cs hd (by omega) hO) (gV pw_158 pw_159 pw_160 pw_63 pw_128) hV_X0_give qr10 0 hqr11 rfl rfl rfl (Nat.le_of_ble_eq_true rfl) dX0_single_71 ⟨(by show 0 + 0 ≤ 1; omega), (by show 0 + 0 ≤ 6; omega)⟩ ⟨(by show 3 + 1 ≤ (5 * n + 33); omega), (by show 8 + (4 + 11) + 83 ≤ (200 * n + 560); omega)⟩ (fun v9 u7 H locs hw8 hP hD hS => ?_)
    obtain ⟨w, _⟩ := u7
    obtain ⟨hw8, hO⟩ := hw8
    obtain rfl : v9 = some (.int 60) := hw8
    have hO : OKP G h0 a (upd (upd (upd (upd (upd F 2 (nI sz)) 5 (nI (cs + 1))) 7 (nI hd)) 12 (nI vr)) 13 as9) (updR (updR R 2 (.ref pq)) 3 (.ref mq)) Z (updA (updA (updA (updA B 16 (upd ((B 16)) cs 1)) 17 (upd ((B 17)) cs (tkN ((B 9)) sz (-1) tk))) 18 (upd ((B 18)) cs 0)) 19 (upd ((B 19)) cs (nI hd))) J K w := hO.to rfl
    refine W.widen (k := 0) (n := 0) (Nat.le_of_ble_eq_true rfl) (Nat.le_of_ble_eq_true rfl) ?_
    refine W.eq (g2 := F0 m 74 ls [.int 60]) rfl ?_
    have hsw12 : ∀ x9 : Nat, x9 < cs → (upd ((B 16)) cs 1) x9 = B 16 x9 := fun x9 hx9 => (if_neg (by omega)).trans ((fun _ _ => rfl) x9 hx9)
    have hsw13 : ∀ x9 : Nat, x9 < cs → (upd ((B 17)) cs (tkN ((B 9)) sz (-1) tk)) x9 = B 17 x9 := fun x9 hx9 => (if_neg (by omega)).trans ((fun _ _ => rfl) x9 hx9)
    have hsw14 : ∀ x9 : Nat, x9 < cs → (upd ((B 18)) cs 0) x9 = B 18 x9 := fun x9 hx9 => (if_neg (by omega)).trans ((fun _ _ => rfl) x9 hx9)
    have hsw15 : ∀ x9 : Nat, x9 < cs → (upd ((B 19)) cs (nI hd)) x9 = B 19 x9 := fun x9 hx9 => (if_neg (by omega)).trans ((fun _ _ => rfl) x9 hx9)
    obtain ⟨Ag16, hev17⟩ : ∃ A5 : Nat → AS, okA → EvQ pb.1 pb.2.1 pb.2.2.1 pb.2.2.2 (B 16) (B 17) (B 18) (B 19) (upd ((B 16)) cs 1) (upd ((B 17)) cs (tkN ((B 9)) sz (-1) tk)) (upd ((B 18)) cs 0) (upd ((B 19)) cs (nI hd)) Ag A5 pd m9 sn lo cs (cs + 1) as9 as9 hd sl (60 :: os) := ⟨(upS Ag (cs + 1) (rcA as9, hd, sl, (60 :: os))), fun z => (hev0 z).trans (EmS.const (hev0 z).1 (by show os.length ≤ 248; omega) (fun S => VT.num))⟩
    have hng9 : Nng (upd ((B 18)) cs 0) := Nng.set hng (k := 0) (by omega)
    have hng18 := hng9
    refine W_size (fun hz1 hz2 => ?_)
    refine vx_ret ?_
    have hz19 : SmW B (updA (updA (updA (updA B 16 (upd ((B 16)) cs 1)) 17 (upd ((B 17)) cs (tkN ((B 9)) sz (-1) tk))) 18 (upd ((B 18)) cs 0)) 19 (upd ((B 19)) cs (nI hd))) cs := (fun x9 hx9 => ⟨hsw12 x9 hx9, hsw13 x9 hx9, hsw14 x9 hx9, hsw15 x9 hx9⟩)
    have hz20 : BdE K K := BdE.rfl
    have hz21 : BeF K K := BeF.rfl
    have hz22 : BeL K K none := BeL.rfl
    have hz23 : BeI K K g q := BeI.rfl
    have hz24 : Bth B (updA (updA (updA (updA B 16 (upd ((B 16)) cs 1)) 17 (upd ((B 17)) cs (tkN ((B 9)) sz (-1) tk))) 18 (upd ((B 18)) cs 0)) 19 (upd ((B 19)) cs (nI hd))) := (show Thx (upd (upd (upd (upd (upd F 2 (nI sz)) 5 (nI cs)) 7 (nI hd)) 12 (nI vr)) 13 as9) (upd (upd (upd (upd (upd (upd F 2 (nI sz)) 5 (nI cs)) 7 (nI hd)) 12 (nI vr)) 13 as9) 5 (nI (cs + 1))) B (updA (updA (updA (updA B 16 (upd ((B 16)) cs 1)) 17 (upd ((B 17)) cs (tkN ((B 9)) sz (-1) tk))) 18 (upd ((B 18)) cs 0)) 19 (upd ((B 19)) cs (nI hd))) from (Thx.b (Thx.b8 (Thx.b (Thx.b (Thx.f Thx.rfl (by omega)) (by omega) (by decide)) (by omega) (by decide)) hng18) (by omega) (by decide))).2
    have hz25 : BeR B (updA (updA (updA (updA B 16 (upd ((B 16)) cs 1)) 17 (upd ((B 17)) cs (tkN ((B 9)) sz (-1) tk))) 18 (upd ((B 18)) cs 0)) 19 (upd ((B 19)) cs (nI hd))) := (BeR.up (k := 19) (f := (upd ((B 19)) cs (nI hd))) (BeR.up (k := 18) (f := (upd ((B 18)) cs 0)) (BeR.up (k := 17) (f := (upd ((B 17)) cs (tkN ((B 9)) sz (-1) tk))) (BeR.up (k := 16) (f := (upd ((B 16)) cs 1)) BeR.rfl (by omega)) (by omega)) (by omega)) (by omega))
    have hz26 : 60 < 128 := (by omega)
    have hz27 : cs ≤ (cs + 1) ∧ (cs + 1) + 0 ≤ cs + 2 * tlE g q := (by omega)
    have hz28 : AsE as9 as9 := AsE.rfl
    have hz29 : okA → PlQ pb B (updA (updA (updA (updA B 16 (upd ((B 16)) cs 1)) 17 (upd ((B 17)) cs (tkN ((B 9)) sz (-1) tk))) 18 (upd ((B 18)) cs 0)) 19 (upd ((B 19)) cs (nI hd))) Ag Ag16 pd m9 sn lo cs (cs + 1) as9 as9 hd sl os 60 (K.2.1 0 q) := (fun z => Or.inr ⟨by rw [rsO_ne (by omega)]; exact hev17 z, by omega⟩)
    have hO : OKP G h0 a (upd (upd (upd (upd (upd (upd (upd F 2 (nI sz)) 5 (nI (cs + 1))) 7 (nI hd)) 12 (nI vr)) 13 as9) 14 (F 14)) 15 (F 15)) (updR (updR R 2 (.ref pq)) 3 (.ref mq)) Z (updA (updA (updA (updA B 16 (upd ((B 16)) cs 1)) 17 (upd ((B 17)) cs (tkN ((B 9)) sz (-1) tk))) 18 (upd ((B 18)) cs 0)) 19 (upd ((B 19)) cs (nI hd))) J K w := hO.to rfl
    refine W.widen (k := 1) (n := 6) (by omega) (by omega) ?_
    have hzz1 : H.size ≤ s.heap.size + (0) := (by have z : 0 ≤ 0 := (by omega); omega)
    have hzz2 : hSl H ≤ hSl s.heap + (0) := (by have z : 0 ≤ 0 := (by omega); omega)
    exact W.iret (v := 60) hx hb hr (fun t99 ht99 hW99 => ⟨⟨_, (w, (K, (updA (updA (updA (updA B 16 (upd ((B 16)) cs 1)) 17 (upd ((B 17)) cs (tkN ((B 9)) sz (-1) tk))) 18 (upd ((B 18)) cs 0)) 19 (upd ((B 19)) cs (nI hd))), (cs + 1), as9, (F 14), (F 15), 60, Ag16)), rfl, ⟨rfl, hz19, hz20, hz21, hz22, hz23, hz24, hz25, hz26, hz27, hz28, hz29, hO⟩, by rw [ht99]; exact hP, hD, by rw [ht99]; exact hzz1, by rw [ht99]; exact hzz2⟩, hS.F ht99⟩) hS.2.2 dX0_single_74
  by_cases h30 : kd = 1
  · subst h30
    refine lv_tableIn (tgt := 140) (off := 136) hx hb dX0_single_4 (by decide) (by decide) (by decide) (by decide) ?_
    refine lv_bipush (v := 63) hx hb dX0_single_140 (by decide) ?_
    refine W_size (fun hz1 hz2 => ?_)
    refine vx_ret ?_
    have hz31 : SmW B B cs := (fun x9 hx9 => ⟨(fun _ _ => rfl) x9 hx9, (fun _ _ => rfl) x9 hx9, (fun _ _ => rfl) x9 hx9, (fun _ _ => rfl) x9 hx9⟩)
    have hz32 : BdE K K := BdE.rfl
    have hz33 : BeF K K := BeF.rfl
    have hz34 : BeL K K none := BeL.rfl
    have hz35 : BeI K K g q := BeI.rfl
    have hz36 : Bth B B := (show Thx (upd (upd (upd (upd (upd F 2 (nI sz)) 5 (nI cs)) 7 (nI hd)) 12 (nI vr)) 13 as9) (upd (upd (upd (upd (upd F 2 (nI sz)) 5 (nI cs)) 7 (nI hd)) 12 (nI vr)) 13 as9) B B from Thx.rfl).2
    have hz37 : BeR B B := BeR.rfl
    have hz38 : 63 < 128 := (by omega)
    have hz39 : cs ≤ cs ∧ cs + 0 ≤ cs + 2 * tlE g q := (by omega)
    have hz40 : AsE as9 as9 := AsE.rfl
    have hz41 : okA → PlQ pb B B Ag Ag pd m9 sn lo cs cs as9 as9 hd sl os 63 (K.2.1 0 q) := (fun z => Or.inl ⟨rfl, hck⟩)
    have hO : OKP G h0 a (upd (upd (upd (upd (upd (upd (upd F 2 (nI sz)) 5 (nI cs)) 7 (nI hd)) 12 (nI vr)) 13 as9) 14 (F 14)) 15 (F 15)) (updR (updR R 2 (.ref pq)) 3 (.ref mq)) Z B J K w := hO.to rfl
    refine W.widen (k := 1) (n := 6) (by omega) (by omega) ?_
    have hzz1 : s.heap.size ≤ s.heap.size + (0) := (by have z : 0 ≤ 0 := (by omega); omega)
    have hzz2 : hSl s.heap ≤ hSl s.heap + (0) := (by have z : 0 ≤ 0 := (by omega); omega)
    exact W.iret (v := 63) hx hb hr (fun t99 ht99 hW99 => ⟨⟨_, (w, (K, B, cs, as9, (F 14), (F 15), 63, Ag)), rfl, ⟨rfl, hz31, hz32, hz33, hz34, hz35, hz36, hz37, hz38, hz39, hz40, hz41, hO⟩, by rw [ht99]; exact hP, hD, by rw [ht99]; exact hzz1, by rw [ht99]; exact hzz2⟩, hS.F ht99⟩) hS.2.2 dX0_single_142
  by_cases h42 : kd = 2
  · subst h42
    refine lv_tableIn (tgt := 140) (off := 136) hx hb dX0_single_4 (by decide) (by decide) (by decide) (by decide) ?_
    refine lv_bipush (v := 63) hx hb dX0_single_140 (by decide) ?_
    refine W_size (fun hz1 hz2 => ?_)
    refine vx_ret ?_
    have hz43 : SmW B B cs := (fun x9 hx9 => ⟨(fun _ _ => rfl) x9 hx9, (fun _ _ => rfl) x9 hx9, (fun _ _ => rfl) x9 hx9, (fun _ _ => rfl) x9 hx9⟩)
    have hz44 : BdE K K := BdE.rfl
    have hz45 : BeF K K := BeF.rfl
    have hz46 : BeL K K none := BeL.rfl
    have hz47 : BeI K K g q := BeI.rfl
    have hz48 : Bth B B := (show Thx (upd (upd (upd (upd (upd F 2 (nI sz)) 5 (nI cs)) 7 (nI hd)) 12 (nI vr)) 13 as9) (upd (upd (upd (upd (upd F 2 (nI sz)) 5 (nI cs)) 7 (nI hd)) 12 (nI vr)) 13 as9) B B from Thx.rfl).2
    have hz49 : BeR B B := BeR.rfl
    have hz50 : 63 < 128 := (by omega)
    have hz51 : cs ≤ cs ∧ cs + 0 ≤ cs + 2 * tlE g q := (by omega)
    have hz52 : AsE as9 as9 := AsE.rfl
    have hz53 : okA → PlQ pb B B Ag Ag pd m9 sn lo cs cs as9 as9 hd sl os 63 (K.2.1 0 q) := (fun z => Or.inl ⟨rfl, hck⟩)
    have hO : OKP G h0 a (upd (upd (upd (upd (upd (upd (upd F 2 (nI sz)) 5 (nI cs)) 7 (nI hd)) 12 (nI vr)) 13 as9) 14 (F 14)) 15 (F 15)) (updR (updR R 2 (.ref pq)) 3 (.ref mq)) Z B J K w := hO.to rfl
    refine W.widen (k := 1) (n := 6) (by omega) (by omega) ?_
    have hzz1 : s.heap.size ≤ s.heap.size + (0) := (by have z : 0 ≤ 0 := (by omega); omega)
    have hzz2 : hSl s.heap ≤ hSl s.heap + (0) := (by have z : 0 ≤ 0 := (by omega); omega)
    exact W.iret (v := 63) hx hb hr (fun t99 ht99 hW99 => ⟨⟨_, (w, (K, B, cs, as9, (F 14), (F 15), 63, Ag)), rfl, ⟨rfl, hz43, hz44, hz45, hz46, hz47, hz48, hz49, hz50, hz51, hz52, hz53, hO⟩, by rw [ht99]; exact hP, hD, by rw [ht99]; exact hzz1, by rw [ht99]; exact hzz2⟩, hS.F ht99⟩) hS.2.2 dX0_single_142
  by_cases h54 : kd = 3
  · subst h54
    refine lv_tableIn (tgt := 75) (off := 71) hx hb dX0_single_4 (by decide) (by decide) (by decide) (by decide) ?_
    refine lv_aload_n hx hb dX0_single_75 rfl (lv_at hl 0 rfl) ?_
    refine lv_iconst (v := 1) hx hb dX0_single_76 (by decide) ?_
    refine lv_iconst (v := 0) hx hb dX0_single_77 (by decide) ?_
    refine lv_bipush (v := 62) hx hb dX0_single_78 (by decide) ?_
    have hO : OKW G h0 a (upd (upd (upd (upd (upd (upd (upd F 2 (nI sz)) 5 (nI cs)) 7 (nI hd)) 12 (nI vr)) 13 as9) 5 (nI cs)) 7 (nI hd)) (updR (updR R 2 (.ref pq)) 3 (.ref mq)) Z B J K.1 (fun q99 x99 => x99 = rep G a K q99) w := hO.to rfl
    obtain ⟨_, qr58, hqr59⟩ := hO.2.1 24 _ (sg_24 G h0 a _ _ _ _ _)
    refine pc_V0 (G := G) (As := [.int 1, .int 0, .int 62]) (rest := []) hx hb hml hown hq hE hX pX0_al hP hD hS hA hl.1 (Y_give l G h0 a (upd (upd (upd (upd (upd F 2 (nI sz)) 5 (nI cs)) 7 (nI hd)) 12 (nI vr)) 13 as9) (updR (updR R 2 (.ref pq)) 3 (.ref mq)) Z B J K.1 (fun q99 x99 => x99 = rep G a K q99) w 1 0 62 cs hd (by omega) hO) (gV pw_158 pw_159 pw_160 pw_63 pw_128) hV_X0_give qr58 0 hqr59 rfl rfl rfl (Nat.le_of_ble_eq_true rfl) dX0_single_80 ⟨(by show 0 + 0 ≤ 1; omega), (by show 0 + 0 ≤ 6; omega)⟩ ⟨(by show 3 + 1 ≤ (5 * n + 33); omega), (by show 8 + (4 + 11) + 83 ≤ (200 * n + 560); omega)⟩ (fun v57 u55 H locs hw56 hP hD hS => ?_)
    obtain ⟨w, _⟩ := u55
    obtain ⟨hw56, hO⟩ := hw56
    obtain rfl : v57 = some (.int 62) := hw56
    have hO : OKP G h0 a (upd (upd (upd (upd (upd F 2 (nI sz)) 5 (nI (cs + 1))) 7 (nI hd)) 12 (nI vr)) 13 as9) (updR (updR R 2 (.ref pq)) 3 (.ref mq)) Z (updA (updA (updA (updA B 16 (upd ((B 16)) cs 1)) 17 (upd ((B 17)) cs 0)) 18 (upd ((B 18)) cs 0)) 19 (upd ((B 19)) cs (nI hd))) J K w := hO.to rfl
    refine W.widen (k := 0) (n := 0) (Nat.le_of_ble_eq_true rfl) (Nat.le_of_ble_eq_true rfl) ?_
    refine W.eq (g2 := F0 m 83 ls [.int 62]) rfl ?_
    have hsw60 : ∀ x9 : Nat, x9 < cs → (upd ((B 16)) cs 1) x9 = B 16 x9 := fun x9 hx9 => (if_neg (by omega)).trans ((fun _ _ => rfl) x9 hx9)
    have hsw61 : ∀ x9 : Nat, x9 < cs → (upd ((B 17)) cs 0) x9 = B 17 x9 := fun x9 hx9 => (if_neg (by omega)).trans ((fun _ _ => rfl) x9 hx9)
    have hsw62 : ∀ x9 : Nat, x9 < cs → (upd ((B 18)) cs 0) x9 = B 18 x9 := fun x9 hx9 => (if_neg (by omega)).trans ((fun _ _ => rfl) x9 hx9)
    have hsw63 : ∀ x9 : Nat, x9 < cs → (upd ((B 19)) cs (nI hd)) x9 = B 19 x9 := fun x9 hx9 => (if_neg (by omega)).trans ((fun _ _ => rfl) x9 hx9)
    obtain ⟨Ag64, hev65⟩ : ∃ A5 : Nat → AS, okA → EvQ pb.1 pb.2.1 pb.2.2.1 pb.2.2.2 (B 16) (B 17) (B 18) (B 19) (upd ((B 16)) cs 1) (upd ((B 17)) cs 0) (upd ((B 18)) cs 0) (upd ((B 19)) cs (nI hd)) Ag A5 pd m9 sn lo cs (cs + 1) as9 as9 hd sl (62 :: os) := ⟨(upS Ag (cs + 1) (rcA as9, hd, sl, (62 :: os))), fun z => (hev0 z).trans (EmS.const (hev0 z).1 (by show os.length ≤ 248; omega) (fun S => VT.null9))⟩
    have hng9 : Nng (upd ((B 18)) cs 0) := Nng.set hng (k := 0) (by omega)
    have hng66 := hng9
    refine W_size (fun hz1 hz2 => ?_)
    refine vx_ret ?_
    have hz67 : SmW B (updA (updA (updA (updA B 16 (upd ((B 16)) cs 1)) 17 (upd ((B 17)) cs 0)) 18 (upd ((B 18)) cs 0)) 19 (upd ((B 19)) cs (nI hd))) cs := (fun x9 hx9 => ⟨hsw60 x9 hx9, hsw61 x9 hx9, hsw62 x9 hx9, hsw63 x9 hx9⟩)
    have hz68 : BdE K K := BdE.rfl
    have hz69 : BeF K K := BeF.rfl
    have hz70 : BeL K K none := BeL.rfl
    have hz71 : BeI K K g q := BeI.rfl
    have hz72 : Bth B (updA (updA (updA (updA B 16 (upd ((B 16)) cs 1)) 17 (upd ((B 17)) cs 0)) 18 (upd ((B 18)) cs 0)) 19 (upd ((B 19)) cs (nI hd))) := (show Thx (upd (upd (upd (upd (upd F 2 (nI sz)) 5 (nI cs)) 7 (nI hd)) 12 (nI vr)) 13 as9) (upd (upd (upd (upd (upd (upd F 2 (nI sz)) 5 (nI cs)) 7 (nI hd)) 12 (nI vr)) 13 as9) 5 (nI (cs + 1))) B (updA (updA (updA (updA B 16 (upd ((B 16)) cs 1)) 17 (upd ((B 17)) cs 0)) 18 (upd ((B 18)) cs 0)) 19 (upd ((B 19)) cs (nI hd))) from (Thx.b (Thx.b8 (Thx.b (Thx.b (Thx.f Thx.rfl (by omega)) (by omega) (by decide)) (by omega) (by decide)) hng66) (by omega) (by decide))).2
    have hz73 : BeR B (updA (updA (updA (updA B 16 (upd ((B 16)) cs 1)) 17 (upd ((B 17)) cs 0)) 18 (upd ((B 18)) cs 0)) 19 (upd ((B 19)) cs (nI hd))) := (BeR.up (k := 19) (f := (upd ((B 19)) cs (nI hd))) (BeR.up (k := 18) (f := (upd ((B 18)) cs 0)) (BeR.up (k := 17) (f := (upd ((B 17)) cs 0)) (BeR.up (k := 16) (f := (upd ((B 16)) cs 1)) BeR.rfl (by omega)) (by omega)) (by omega)) (by omega))
    have hz74 : 62 < 128 := (by omega)
    have hz75 : cs ≤ (cs + 1) ∧ (cs + 1) + 0 ≤ cs + 2 * tlE g q := (by omega)
    have hz76 : AsE as9 as9 := AsE.rfl
    have hz77 : okA → PlQ pb B (updA (updA (updA (updA B 16 (upd ((B 16)) cs 1)) 17 (upd ((B 17)) cs 0)) 18 (upd ((B 18)) cs 0)) 19 (upd ((B 19)) cs (nI hd))) Ag Ag64 pd m9 sn lo cs (cs + 1) as9 as9 hd sl os 62 (K.2.1 0 q) := (fun z => Or.inr ⟨by rw [rsO_ne (by omega)]; exact hev65 z, by omega⟩)
    have hO : OKP G h0 a (upd (upd (upd (upd (upd (upd (upd F 2 (nI sz)) 5 (nI (cs + 1))) 7 (nI hd)) 12 (nI vr)) 13 as9) 14 (F 14)) 15 (F 15)) (updR (updR R 2 (.ref pq)) 3 (.ref mq)) Z (updA (updA (updA (updA B 16 (upd ((B 16)) cs 1)) 17 (upd ((B 17)) cs 0)) 18 (upd ((B 18)) cs 0)) 19 (upd ((B 19)) cs (nI hd))) J K w := hO.to rfl
    refine W.widen (k := 1) (n := 6) (by omega) (by omega) ?_
    have hzz1 : H.size ≤ s.heap.size + (0) := (by have z : 0 ≤ 0 := (by omega); omega)
    have hzz2 : hSl H ≤ hSl s.heap + (0) := (by have z : 0 ≤ 0 := (by omega); omega)
    exact W.iret (v := 62) hx hb hr (fun t99 ht99 hW99 => ⟨⟨_, (w, (K, (updA (updA (updA (updA B 16 (upd ((B 16)) cs 1)) 17 (upd ((B 17)) cs 0)) 18 (upd ((B 18)) cs 0)) 19 (upd ((B 19)) cs (nI hd))), (cs + 1), as9, (F 14), (F 15), 62, Ag64)), rfl, ⟨rfl, hz67, hz68, hz69, hz70, hz71, hz72, hz73, hz74, hz75, hz76, hz77, hO⟩, by rw [ht99]; exact hP, hD, by rw [ht99]; exact hzz1, by rw [ht99]; exact hzz2⟩, hS.F ht99⟩) hS.2.2 dX0_single_83
  by_cases h78 : kd = 4
  · subst h78
    refine lv_tableIn (tgt := 84) (off := 80) hx hb dX0_single_4 (by decide) (by decide) (by decide) (by decide) ?_
    refine lv_aload_n hx hb dX0_single_84 rfl (lv_at hl 0 rfl) ?_
    refine lv_iconst (v := 2) hx hb dX0_single_85 (by decide) ?_
    refine lv_iconst (v := 0) hx hb dX0_single_86 (by decide) ?_
    refine lv_aload_n hx hb dX0_single_87 rfl (lv_at hl 0 rfl) ?_
    refine c_get (v := .ref mq) (C := RX0) (Tc := TX0) (N := 13) (ci := 0) hx hb hq pin_wsX00 hown hE hP hO 24 (sg_24 G h0 a _ _ _ _ _) rfl 7 (by decide) (hq _ pw_72) (fun _ h9 => h9) rfl dX0_single_88 ?_
    refine p_get (v := .ref dO) (C := RX6) (Tc := TX6) (N := 12) (ci := 12) hx hb hq pin_wsX60 hown hE hP hO (by rw [hmq]; decide) (rep_3 hmq) rfl 0 (by decide) (hq _ pw_161) (fun _ h9 => h9) (congrArg (fun z => some (va_rf z)) hdO) dX0_single_91 ?_
    refine p_get (v := .int (nI c0)) (C := RX2) (Tc := TX2) (N := 13) (ci := 2) hx hb hq pin_wsX20 hown hE hP hO (by rw [htO]; decide) (rep_4 htO) rfl 0 (by decide) (hq _ pw_167) (fun _ h9 => h9) (congrArg (fun z => some (Value.int z)) hnO) dX0_single_94 ?_
    have hO : OKW G h0 a (upd (upd (upd (upd (upd (upd (upd F 2 (nI sz)) 5 (nI cs)) 7 (nI hd)) 12 (nI vr)) 13 as9) 5 (nI cs)) 7 (nI hd)) (updR (updR R 2 (.ref pq)) 3 (.ref mq)) Z B J K.1 (fun q99 x99 => x99 = rep G a K q99) w := hO.to rfl
    obtain ⟨_, qr82, hqr83⟩ := hO.2.1 24 _ (sg_24 G h0 a _ _ _ _ _)
    refine pc_V0 (G := G) (As := [.int 2, .int 0, .int (nI c0)]) (rest := []) hx hb hml hown hq hE hX pX0_al hP hD hS hA hl.1 (Y_give l G h0 a (upd (upd (upd (upd (upd F 2 (nI sz)) 5 (nI cs)) 7 (nI hd)) 12 (nI vr)) 13 as9) (updR (updR R 2 (.ref pq)) 3 (.ref mq)) Z B J K.1 (fun q99 x99 => x99 = rep G a K q99) w 2 0 (nI c0) cs hd (by omega) hO) (gV pw_158 pw_159 pw_160 pw_63 pw_128) hV_X0_give qr82 0 hqr83 rfl rfl rfl (Nat.le_of_ble_eq_true rfl) dX0_single_97 ⟨(by show 0 + 0 ≤ 1; omega), (by show 0 + 0 ≤ 6; omega)⟩ ⟨(by show 3 + 1 ≤ (5 * n + 33); omega), (by show 8 + (4 + 11) + 83 ≤ (200 * n + 560); omega)⟩ (fun v81 u79 H locs hw80 hP hD hS => ?_)
    obtain ⟨w, _⟩ := u79
    obtain ⟨hw80, hO⟩ := hw80
    obtain rfl : v81 = some (.int (nI c0)) := hw80
    have hO : OKP G h0 a (upd (upd (upd (upd (upd F 2 (nI sz)) 5 (nI (cs + 1))) 7 (nI hd)) 12 (nI vr)) 13 as9) (updR (updR R 2 (.ref pq)) 3 (.ref mq)) Z (updA (updA (updA (updA B 16 (upd ((B 16)) cs 2)) 17 (upd ((B 17)) cs 0)) 18 (upd ((B 18)) cs 0)) 19 (upd ((B 19)) cs (nI hd))) J K w := hO.to rfl
    refine W.widen (k := 0) (n := 0) (Nat.le_of_ble_eq_true rfl) (Nat.le_of_ble_eq_true rfl) ?_
    refine W.eq (g2 := F0 m 100 ls [.int (nI c0)]) rfl ?_
    have hsw84 : ∀ x9 : Nat, x9 < cs → (upd ((B 16)) cs 2) x9 = B 16 x9 := fun x9 hx9 => (if_neg (by omega)).trans ((fun _ _ => rfl) x9 hx9)
    have hsw85 : ∀ x9 : Nat, x9 < cs → (upd ((B 17)) cs 0) x9 = B 17 x9 := fun x9 hx9 => (if_neg (by omega)).trans ((fun _ _ => rfl) x9 hx9)
    have hsw86 : ∀ x9 : Nat, x9 < cs → (upd ((B 18)) cs 0) x9 = B 18 x9 := fun x9 hx9 => (if_neg (by omega)).trans ((fun _ _ => rfl) x9 hx9)
    have hsw87 : ∀ x9 : Nat, x9 < cs → (upd ((B 19)) cs (nI hd)) x9 = B 19 x9 := fun x9 hx9 => (if_neg (by omega)).trans ((fun _ _ => rfl) x9 hx9)
    obtain ⟨Ag88, hev89⟩ : ∃ A5 : Nat → AS, okA → EvQ pb.1 pb.2.1 pb.2.2.1 pb.2.2.2 (B 16) (B 17) (B 18) (B 19) (upd ((B 16)) cs 2) (upd ((B 17)) cs 0) (upd ((B 18)) cs 0) (upd ((B 19)) cs (nI hd)) Ag A5 pd m9 sn lo cs (cs + 1) as9 as9 hd sl (c0 :: os) := ⟨(upS Ag (cs + 1) (rcA as9, hd, sl, (c0 :: os))), fun z => (hev0 z).trans (EmS.load0 (hev0 z).1 (by show os.length ≤ 248; omega) hen.1.2.1 (Nat.lt_of_lt_of_le Nat.zero_lt_one hen.1.1) (by have z9 := hen.1.2.2; have z8 := hna.1.1; omega))⟩
    have hng9 : Nng (upd ((B 18)) cs 0) := Nng.set hng (k := 0) (by omega)
    have hng90 := hng9
    refine W_size (fun hz1 hz2 => ?_)
    refine vx_ret ?_
    have hc37 := hen.1.2.2
    have h379 := hna.1.1
    have hz91 : SmW B (updA (updA (updA (updA B 16 (upd ((B 16)) cs 2)) 17 (upd ((B 17)) cs 0)) 18 (upd ((B 18)) cs 0)) 19 (upd ((B 19)) cs (nI hd))) cs := (fun x9 hx9 => ⟨hsw84 x9 hx9, hsw85 x9 hx9, hsw86 x9 hx9, hsw87 x9 hx9⟩)
    have hz92 : BdE K K := BdE.rfl
    have hz93 : BeF K K := BeF.rfl
    have hz94 : BeL K K none := BeL.rfl
    have hz95 : BeI K K g q := BeI.rfl
    have hz96 : Bth B (updA (updA (updA (updA B 16 (upd ((B 16)) cs 2)) 17 (upd ((B 17)) cs 0)) 18 (upd ((B 18)) cs 0)) 19 (upd ((B 19)) cs (nI hd))) := (show Thx (upd (upd (upd (upd (upd F 2 (nI sz)) 5 (nI cs)) 7 (nI hd)) 12 (nI vr)) 13 as9) (upd (upd (upd (upd (upd (upd F 2 (nI sz)) 5 (nI cs)) 7 (nI hd)) 12 (nI vr)) 13 as9) 5 (nI (cs + 1))) B (updA (updA (updA (updA B 16 (upd ((B 16)) cs 2)) 17 (upd ((B 17)) cs 0)) 18 (upd ((B 18)) cs 0)) 19 (upd ((B 19)) cs (nI hd))) from (Thx.b (Thx.b8 (Thx.b (Thx.b (Thx.f Thx.rfl (by omega)) (by omega) (by decide)) (by omega) (by decide)) hng90) (by omega) (by decide))).2
    have hz97 : BeR B (updA (updA (updA (updA B 16 (upd ((B 16)) cs 2)) 17 (upd ((B 17)) cs 0)) 18 (upd ((B 18)) cs 0)) 19 (upd ((B 19)) cs (nI hd))) := (BeR.up (k := 19) (f := (upd ((B 19)) cs (nI hd))) (BeR.up (k := 18) (f := (upd ((B 18)) cs 0)) (BeR.up (k := 17) (f := (upd ((B 17)) cs 0)) (BeR.up (k := 16) (f := (upd ((B 16)) cs 2)) BeR.rfl (by omega)) (by omega)) (by omega)) (by omega))
    have hz98 : c0 < 128 := (by omega)
    have hz99 : cs ≤ (cs + 1) ∧ (cs + 1) + 0 ≤ cs + 2 * tlE g q := (by omega)
    have hz100 : AsE as9 as9 := AsE.rfl
    have hz101 : okA → PlQ pb B (updA (updA (updA (updA B 16 (upd ((B 16)) cs 2)) 17 (upd ((B 17)) cs 0)) 18 (upd ((B 18)) cs 0)) 19 (upd ((B 19)) cs (nI hd))) Ag Ag88 pd m9 sn lo cs (cs + 1) as9 as9 hd sl os c0 (K.2.1 0 q) := (fun z => Or.inr ⟨by rw [rsO_ne (by omega)]; exact hev89 z, by omega⟩)
    have hO : OKP G h0 a (upd (upd (upd (upd (upd (upd (upd F 2 (nI sz)) 5 (nI (cs + 1))) 7 (nI hd)) 12 (nI vr)) 13 as9) 14 (F 14)) 15 (F 15)) (updR (updR R 2 (.ref pq)) 3 (.ref mq)) Z (updA (updA (updA (updA B 16 (upd ((B 16)) cs 2)) 17 (upd ((B 17)) cs 0)) 18 (upd ((B 18)) cs 0)) 19 (upd ((B 19)) cs (nI hd))) J K w := hO.to rfl
    refine W.widen (k := 1) (n := 6) (by omega) (by omega) ?_
    have hzz1 : H.size ≤ s.heap.size + (0) := (by have z : 0 ≤ 0 := (by omega); omega)
    have hzz2 : hSl H ≤ hSl s.heap + (0) := (by have z : 0 ≤ 0 := (by omega); omega)
    exact W.iret (v := (nI c0)) hx hb hr (fun t99 ht99 hW99 => ⟨⟨_, (w, (K, (updA (updA (updA (updA B 16 (upd ((B 16)) cs 2)) 17 (upd ((B 17)) cs 0)) 18 (upd ((B 18)) cs 0)) 19 (upd ((B 19)) cs (nI hd))), (cs + 1), as9, (F 14), (F 15), c0, Ag88)), rfl, ⟨rfl, hz91, hz92, hz93, hz94, hz95, hz96, hz97, hz98, hz99, hz100, hz101, hO⟩, by rw [ht99]; exact hP, hD, by rw [ht99]; exact hzz1, by rw [ht99]; exact hzz2⟩, hS.F ht99⟩) hS.2.2 dX0_single_100
  by_cases h102 : kd = 5
  · subst h102
    refine lv_tableIn (tgt := 140) (off := 136) hx hb dX0_single_4 (by decide) (by decide) (by decide) (by decide) ?_
    refine lv_bipush (v := 63) hx hb dX0_single_140 (by decide) ?_
    refine W_size (fun hz1 hz2 => ?_)
    refine vx_ret ?_
    have hz103 : SmW B B cs := (fun x9 hx9 => ⟨(fun _ _ => rfl) x9 hx9, (fun _ _ => rfl) x9 hx9, (fun _ _ => rfl) x9 hx9, (fun _ _ => rfl) x9 hx9⟩)
    have hz104 : BdE K K := BdE.rfl
    have hz105 : BeF K K := BeF.rfl
    have hz106 : BeL K K none := BeL.rfl
    have hz107 : BeI K K g q := BeI.rfl
    have hz108 : Bth B B := (show Thx (upd (upd (upd (upd (upd F 2 (nI sz)) 5 (nI cs)) 7 (nI hd)) 12 (nI vr)) 13 as9) (upd (upd (upd (upd (upd F 2 (nI sz)) 5 (nI cs)) 7 (nI hd)) 12 (nI vr)) 13 as9) B B from Thx.rfl).2
    have hz109 : BeR B B := BeR.rfl
    have hz110 : 63 < 128 := (by omega)
    have hz111 : cs ≤ cs ∧ cs + 0 ≤ cs + 2 * tlE g q := (by omega)
    have hz112 : AsE as9 as9 := AsE.rfl
    have hz113 : okA → PlQ pb B B Ag Ag pd m9 sn lo cs cs as9 as9 hd sl os 63 (K.2.1 0 q) := (fun z => Or.inl ⟨rfl, hck⟩)
    have hO : OKP G h0 a (upd (upd (upd (upd (upd (upd (upd F 2 (nI sz)) 5 (nI cs)) 7 (nI hd)) 12 (nI vr)) 13 as9) 14 (F 14)) 15 (F 15)) (updR (updR R 2 (.ref pq)) 3 (.ref mq)) Z B J K w := hO.to rfl
    refine W.widen (k := 1) (n := 6) (by omega) (by omega) ?_
    have hzz1 : s.heap.size ≤ s.heap.size + (0) := (by have z : 0 ≤ 0 := (by omega); omega)
    have hzz2 : hSl s.heap ≤ hSl s.heap + (0) := (by have z : 0 ≤ 0 := (by omega); omega)
    exact W.iret (v := 63) hx hb hr (fun t99 ht99 hW99 => ⟨⟨_, (w, (K, B, cs, as9, (F 14), (F 15), 63, Ag)), rfl, ⟨rfl, hz103, hz104, hz105, hz106, hz107, hz108, hz109, hz110, hz111, hz112, hz113, hO⟩, by rw [ht99]; exact hP, hD, by rw [ht99]; exact hzz1, by rw [ht99]; exact hzz2⟩, hS.F ht99⟩) hS.2.2 dX0_single_142
  by_cases h114 : kd = 6
  · subst h114
    refine lv_tableIn (tgt := 101) (off := 97) hx hb dX0_single_4 (by decide) (by decide) (by decide) (by decide) ?_
    refine lv_aload_n hx hb dX0_single_101 rfl (lv_at hl 0 rfl) ?_
    refine lv_bipush (v := 12) hx hb dX0_single_102 (by decide) ?_
    refine lv_iconst (v := 0) hx hb dX0_single_104 (by decide) ?_
    refine lv_bipush (v := 60) hx hb dX0_single_105 (by decide) ?_
    have hO : OKW G h0 a (upd (upd (upd (upd (upd (upd (upd F 2 (nI sz)) 5 (nI cs)) 7 (nI hd)) 12 (nI vr)) 13 as9) 5 (nI cs)) 7 (nI hd)) (updR (updR R 2 (.ref pq)) 3 (.ref mq)) Z B J K.1 (fun q99 x99 => x99 = rep G a K q99) w := hO.to rfl
    obtain ⟨_, qr118, hqr119⟩ := hO.2.1 24 _ (sg_24 G h0 a _ _ _ _ _)
    refine pc_V0 (G := G) (As := [.int 12, .int 0, .int 60]) (rest := []) hx hb hml hown hq hE hX pX0_al hP hD hS hA hl.1 (Y_give l G h0 a (upd (upd (upd (upd (upd F 2 (nI sz)) 5 (nI cs)) 7 (nI hd)) 12 (nI vr)) 13 as9) (updR (updR R 2 (.ref pq)) 3 (.ref mq)) Z B J K.1 (fun q99 x99 => x99 = rep G a K q99) w 12 0 60 cs hd (by omega) hO) (gV pw_158 pw_159 pw_160 pw_63 pw_128) hV_X0_give qr118 0 hqr119 rfl rfl rfl (Nat.le_of_ble_eq_true rfl) dX0_single_107 ⟨(by show 0 + 0 ≤ 1; omega), (by show 0 + 0 ≤ 6; omega)⟩ ⟨(by show 3 + 1 ≤ (5 * n + 33); omega), (by show 8 + (4 + 11) + 83 ≤ (200 * n + 560); omega)⟩ (fun v117 u115 H locs hw116 hP hD hS => ?_)
    obtain ⟨w, _⟩ := u115
    obtain ⟨hw116, hO⟩ := hw116
    obtain rfl : v117 = some (.int 60) := hw116
    have hO : OKP G h0 a (upd (upd (upd (upd (upd F 2 (nI sz)) 5 (nI (cs + 1))) 7 (nI hd)) 12 (nI vr)) 13 as9) (updR (updR R 2 (.ref pq)) 3 (.ref mq)) Z (updA (updA (updA (updA B 16 (upd ((B 16)) cs 12)) 17 (upd ((B 17)) cs 0)) 18 (upd ((B 18)) cs 0)) 19 (upd ((B 19)) cs (nI hd))) J K w := hO.to rfl
    refine W.widen (k := 0) (n := 0) (Nat.le_of_ble_eq_true rfl) (Nat.le_of_ble_eq_true rfl) ?_
    refine W.eq (g2 := F0 m 110 ls [.int 60]) rfl ?_
    have hsw120 : ∀ x9 : Nat, x9 < cs → (upd ((B 16)) cs 12) x9 = B 16 x9 := fun x9 hx9 => (if_neg (by omega)).trans ((fun _ _ => rfl) x9 hx9)
    have hsw121 : ∀ x9 : Nat, x9 < cs → (upd ((B 17)) cs 0) x9 = B 17 x9 := fun x9 hx9 => (if_neg (by omega)).trans ((fun _ _ => rfl) x9 hx9)
    have hsw122 : ∀ x9 : Nat, x9 < cs → (upd ((B 18)) cs 0) x9 = B 18 x9 := fun x9 hx9 => (if_neg (by omega)).trans ((fun _ _ => rfl) x9 hx9)
    have hsw123 : ∀ x9 : Nat, x9 < cs → (upd ((B 19)) cs (nI hd)) x9 = B 19 x9 := fun x9 hx9 => (if_neg (by omega)).trans ((fun _ _ => rfl) x9 hx9)
    obtain ⟨Ag124, hev125⟩ : ∃ A5 : Nat → AS, okA → EvQ pb.1 pb.2.1 pb.2.2.1 pb.2.2.2 (B 16) (B 17) (B 18) (B 19) (upd ((B 16)) cs 12) (upd ((B 17)) cs 0) (upd ((B 18)) cs 0) (upd ((B 19)) cs (nI hd)) Ag A5 pd m9 sn lo cs (cs + 1) as9 as9 hd sl (60 :: os) := ⟨(upS Ag (cs + 1) (rcA as9, hd, sl, (60 :: os))), fun z => (hev0 z).trans (EmS.read (hev0 z).1 (by show os.length ≤ 248; omega))⟩
    have hng9 : Nng (upd ((B 18)) cs 0) := Nng.set hng (k := 0) (by omega)
    have hng126 := hng9
    refine W_size (fun hz1 hz2 => ?_)
    refine vx_ret ?_
    have hz127 : SmW B (updA (updA (updA (updA B 16 (upd ((B 16)) cs 12)) 17 (upd ((B 17)) cs 0)) 18 (upd ((B 18)) cs 0)) 19 (upd ((B 19)) cs (nI hd))) cs := (fun x9 hx9 => ⟨hsw120 x9 hx9, hsw121 x9 hx9, hsw122 x9 hx9, hsw123 x9 hx9⟩)
    have hz128 : BdE K K := BdE.rfl
    have hz129 : BeF K K := BeF.rfl
    have hz130 : BeL K K none := BeL.rfl
    have hz131 : BeI K K g q := BeI.rfl
    have hz132 : Bth B (updA (updA (updA (updA B 16 (upd ((B 16)) cs 12)) 17 (upd ((B 17)) cs 0)) 18 (upd ((B 18)) cs 0)) 19 (upd ((B 19)) cs (nI hd))) := (show Thx (upd (upd (upd (upd (upd F 2 (nI sz)) 5 (nI cs)) 7 (nI hd)) 12 (nI vr)) 13 as9) (upd (upd (upd (upd (upd (upd F 2 (nI sz)) 5 (nI cs)) 7 (nI hd)) 12 (nI vr)) 13 as9) 5 (nI (cs + 1))) B (updA (updA (updA (updA B 16 (upd ((B 16)) cs 12)) 17 (upd ((B 17)) cs 0)) 18 (upd ((B 18)) cs 0)) 19 (upd ((B 19)) cs (nI hd))) from (Thx.b (Thx.b8 (Thx.b (Thx.b (Thx.f Thx.rfl (by omega)) (by omega) (by decide)) (by omega) (by decide)) hng126) (by omega) (by decide))).2
    have hz133 : BeR B (updA (updA (updA (updA B 16 (upd ((B 16)) cs 12)) 17 (upd ((B 17)) cs 0)) 18 (upd ((B 18)) cs 0)) 19 (upd ((B 19)) cs (nI hd))) := (BeR.up (k := 19) (f := (upd ((B 19)) cs (nI hd))) (BeR.up (k := 18) (f := (upd ((B 18)) cs 0)) (BeR.up (k := 17) (f := (upd ((B 17)) cs 0)) (BeR.up (k := 16) (f := (upd ((B 16)) cs 12)) BeR.rfl (by omega)) (by omega)) (by omega)) (by omega))
    have hz134 : 60 < 128 := (by omega)
    have hz135 : cs ≤ (cs + 1) ∧ (cs + 1) + 0 ≤ cs + 2 * tlE g q := (by omega)
    have hz136 : AsE as9 as9 := AsE.rfl
    have hz137 : okA → PlQ pb B (updA (updA (updA (updA B 16 (upd ((B 16)) cs 12)) 17 (upd ((B 17)) cs 0)) 18 (upd ((B 18)) cs 0)) 19 (upd ((B 19)) cs (nI hd))) Ag Ag124 pd m9 sn lo cs (cs + 1) as9 as9 hd sl os 60 (K.2.1 0 q) := (fun z => Or.inr ⟨by rw [rsO_ne (by omega)]; exact hev125 z, by omega⟩)
    have hO : OKP G h0 a (upd (upd (upd (upd (upd (upd (upd F 2 (nI sz)) 5 (nI (cs + 1))) 7 (nI hd)) 12 (nI vr)) 13 as9) 14 (F 14)) 15 (F 15)) (updR (updR R 2 (.ref pq)) 3 (.ref mq)) Z (updA (updA (updA (updA B 16 (upd ((B 16)) cs 12)) 17 (upd ((B 17)) cs 0)) 18 (upd ((B 18)) cs 0)) 19 (upd ((B 19)) cs (nI hd))) J K w := hO.to rfl
    refine W.widen (k := 1) (n := 6) (by omega) (by omega) ?_
    have hzz1 : H.size ≤ s.heap.size + (0) := (by have z : 0 ≤ 0 := (by omega); omega)
    have hzz2 : hSl H ≤ hSl s.heap + (0) := (by have z : 0 ≤ 0 := (by omega); omega)
    exact W.iret (v := 60) hx hb hr (fun t99 ht99 hW99 => ⟨⟨_, (w, (K, (updA (updA (updA (updA B 16 (upd ((B 16)) cs 12)) 17 (upd ((B 17)) cs 0)) 18 (upd ((B 18)) cs 0)) 19 (upd ((B 19)) cs (nI hd))), (cs + 1), as9, (F 14), (F 15), 60, Ag124)), rfl, ⟨rfl, hz127, hz128, hz129, hz130, hz131, hz132, hz133, hz134, hz135, hz136, hz137, hO⟩, by rw [ht99]; exact hP, hD, by rw [ht99]; exact hzz1, by rw [ht99]; exact hzz2⟩, hS.F ht99⟩) hS.2.2 dX0_single_110
  by_cases h138 : kd = 7
  · subst h138
    refine lv_tableIn (tgt := 140) (off := 136) hx hb dX0_single_4 (by decide) (by decide) (by decide) (by decide) ?_
    refine lv_bipush (v := 63) hx hb dX0_single_140 (by decide) ?_
    refine W_size (fun hz1 hz2 => ?_)
    refine vx_ret ?_
    have hz139 : SmW B B cs := (fun x9 hx9 => ⟨(fun _ _ => rfl) x9 hx9, (fun _ _ => rfl) x9 hx9, (fun _ _ => rfl) x9 hx9, (fun _ _ => rfl) x9 hx9⟩)
    have hz140 : BdE K K := BdE.rfl
    have hz141 : BeF K K := BeF.rfl
    have hz142 : BeL K K none := BeL.rfl
    have hz143 : BeI K K g q := BeI.rfl
    have hz144 : Bth B B := (show Thx (upd (upd (upd (upd (upd F 2 (nI sz)) 5 (nI cs)) 7 (nI hd)) 12 (nI vr)) 13 as9) (upd (upd (upd (upd (upd F 2 (nI sz)) 5 (nI cs)) 7 (nI hd)) 12 (nI vr)) 13 as9) B B from Thx.rfl).2
    have hz145 : BeR B B := BeR.rfl
    have hz146 : 63 < 128 := (by omega)
    have hz147 : cs ≤ cs ∧ cs + 0 ≤ cs + 2 * tlE g q := (by omega)
    have hz148 : AsE as9 as9 := AsE.rfl
    have hz149 : okA → PlQ pb B B Ag Ag pd m9 sn lo cs cs as9 as9 hd sl os 63 (K.2.1 0 q) := (fun z => Or.inl ⟨rfl, hck⟩)
    have hO : OKP G h0 a (upd (upd (upd (upd (upd (upd (upd F 2 (nI sz)) 5 (nI cs)) 7 (nI hd)) 12 (nI vr)) 13 as9) 14 (F 14)) 15 (F 15)) (updR (updR R 2 (.ref pq)) 3 (.ref mq)) Z B J K w := hO.to rfl
    refine W.widen (k := 1) (n := 6) (by omega) (by omega) ?_
    have hzz1 : s.heap.size ≤ s.heap.size + (0) := (by have z : 0 ≤ 0 := (by omega); omega)
    have hzz2 : hSl s.heap ≤ hSl s.heap + (0) := (by have z : 0 ≤ 0 := (by omega); omega)
    exact W.iret (v := 63) hx hb hr (fun t99 ht99 hW99 => ⟨⟨_, (w, (K, B, cs, as9, (F 14), (F 15), 63, Ag)), rfl, ⟨rfl, hz139, hz140, hz141, hz142, hz143, hz144, hz145, hz146, hz147, hz148, hz149, hO⟩, by rw [ht99]; exact hP, hD, by rw [ht99]; exact hzz1, by rw [ht99]; exact hzz2⟩, hS.F ht99⟩) hS.2.2 dX0_single_142
  by_cases h150 : kd = 8
  · subst h150
    refine lv_tableIn (tgt := 111) (off := 107) hx hb dX0_single_4 (by decide) (by decide) (by decide) (by decide) ?_
    refine lv_aload_n hx hb dX0_single_111 rfl (lv_at hl 0 rfl) ?_
    refine lv_bipush (v := 21) hx hb dX0_single_112 (by decide) ?_
    refine lv_aload_n hx hb dX0_single_114 rfl (lv_at hl 0 rfl) ?_
    refine c_get (v := .ref (a 1)) (C := RX0) (Tc := TX0) (N := 13) (ci := 0) hx hb hq pin_wsX00 hown hE hP hO 24 (sg_24 G h0 a _ _ _ _ _) rfl 0 (by decide) (hq _ pw_4) (fun _ h9 => h9) rfl dX0_single_115 ?_
    refine lv_aload_n hx hb dX0_single_118 rfl (lv_at hl 1 rfl) ?_
    refine p_get (v := .int tk) (C := RX7) (Tc := TX7) (N := 11) (ci := 13) hx hb hq pin_wsX70 hown hE hP hO (by rw [hqT]; decide) (rep_1 hqT) rfl 1 (by decide) (hq _ pw_81) (fun _ h9 => h9) (congrArg (fun z => some (Value.int z)) htk) dX0_single_119 ?_
    have hO : OKW G h0 a (upd (upd (upd (upd (upd (upd F 2 (nI sz)) 5 (nI cs)) 7 (nI hd)) 12 (nI vr)) 13 as9) 2 (nI sz)) (updR (updR R 2 (.ref pq)) 3 (.ref mq)) Z B J K.1 (fun q99 x99 => x99 = rep G a K q99) w := hO.to rfl
    obtain ⟨_, qr154, hqr155⟩ := hO.2.1 2 _ (sg_2 G h0 a _ _ _ _ _)
    refine pc_V0 (G := G) (As := [.int tk]) (rest := [.int 21, .ref (a 4)]) hx hb hml hown hq hE hX pX0_al hP hD hS hA hl.1 (Y_typeAt l G h0 a (upd (upd (upd (upd (upd F 2 (nI sz)) 5 (nI cs)) 7 (nI hd)) 12 (nI vr)) 13 as9) (updR (updR R 2 (.ref pq)) 3 (.ref mq)) Z B J K.1 (fun q99 x99 => x99 = rep G a K q99) w tk sz nd (by omega) (NaB.be BdE.rfl BeF.rfl hwp hps.2.1 hdr0 (BeR.rfl 11 (by decide)) hna).1.2.1 hO) (gV pw_92 pw_93 pw_94 pw_59 pw_36) hV_X10_typeAt qr154 7 hqr155 rfl rfl rfl (Nat.le_of_ble_eq_true rfl) dX0_single_122 ⟨(by show 0 + 0 ≤ 1; omega), (by show 0 + 0 ≤ 6; omega)⟩ ⟨(by show 2 + 1 ≤ (5 * n + 33); omega), (by show 8 + (2 + 11) + 60 ≤ (200 * n + 560); omega)⟩ (fun v153 u151 H locs hw152 hP hD hS => ?_)
    obtain ⟨w, _⟩ := u151
    obtain ⟨hw152, hO⟩ := hw152
    obtain rfl : v153 = some (.int (nI (tyN ((B 11)) sz tk))) := hw152
    have hO : OKP G h0 a (upd (upd (upd (upd (upd F 2 (nI sz)) 5 (nI cs)) 7 (nI hd)) 12 (nI vr)) 13 as9) (updR (updR R 2 (.ref pq)) 3 (.ref mq)) Z B J K w := hO.to rfl
    refine W.widen (k := 0) (n := 0) (Nat.le_of_ble_eq_true rfl) (Nat.le_of_ble_eq_true rfl) ?_
    refine W.eq (g2 := F0 m 125 ls [.int (nI (tyN ((B 11)) sz tk)), .int 21, .ref (a 4)]) rfl ?_
    obtain ⟨ty156, hty156, hvty156⟩ : ∃ z : Nat, tyN (B 11) sz tk = z ∧ TyV nd z := ⟨_, rfl, ((NaB.be BdE.rfl BeF.rfl hwp hps.2.1 hdr0 (BeR.rfl 11 (by decide)) hna).1.2.1).V (by omega)⟩
    rw [hty156]
    have hlty156 := (hvty156).lt hna.1.1
    refine lv_aload_n hx hb dX0_single_125 rfl (lv_at hl 0 rfl) ?_
    refine c_get (v := .ref (a 1)) (C := RX0) (Tc := TX0) (N := 13) (ci := 0) hx hb hq pin_wsX00 hown hE hP hO 24 (sg_24 G h0 a _ _ _ _ _) rfl 0 (by decide) (hq _ pw_4) (fun _ h9 => h9) rfl dX0_single_126 ?_
    refine lv_aload_n hx hb dX0_single_129 rfl (lv_at hl 1 rfl) ?_
    refine p_get (v := .int tk) (C := RX7) (Tc := TX7) (N := 11) (ci := 13) hx hb hq pin_wsX70 hown hE hP hO (by rw [hqT]; decide) (rep_1 hqT) rfl 1 (by decide) (hq _ pw_81) (fun _ h9 => h9) (congrArg (fun z => some (Value.int z)) htk) dX0_single_130 ?_
    have hO : OKW G h0 a (upd (upd (upd (upd (upd (upd F 2 (nI sz)) 5 (nI cs)) 7 (nI hd)) 12 (nI vr)) 13 as9) 2 (nI sz)) (updR (updR R 2 (.ref pq)) 3 (.ref mq)) Z B J K.1 (fun q99 x99 => x99 = rep G a K q99) w := hO.to rfl
    obtain ⟨_, qr160, hqr161⟩ := hO.2.1 2 _ (sg_2 G h0 a _ _ _ _ _)
    refine pc_V0 (G := G) (As := [.int tk]) (rest := [.int (nI ty156), .int 21, .ref (a 4)]) hx hb hml hown hq hE hX pX0_al hP hD hS hA hl.1 (Y_typeAt l G h0 a (upd (upd (upd (upd (upd F 2 (nI sz)) 5 (nI cs)) 7 (nI hd)) 12 (nI vr)) 13 as9) (updR (updR R 2 (.ref pq)) 3 (.ref mq)) Z B J K.1 (fun q99 x99 => x99 = rep G a K q99) w tk sz nd (by omega) (NaB.be BdE.rfl BeF.rfl hwp hps.2.1 hdr0 (BeR.rfl 11 (by decide)) hna).1.2.1 hO) (gV pw_92 pw_93 pw_94 pw_59 pw_36) hV_X10_typeAt qr160 7 hqr161 rfl rfl rfl (Nat.le_of_ble_eq_true rfl) dX0_single_133 ⟨(by show 0 + 0 ≤ 1; omega), (by show 0 + 0 ≤ 6; omega)⟩ ⟨(by show 2 + 1 ≤ (5 * n + 33); omega), (by show 8 + (2 + 11) + 60 ≤ (200 * n + 560); omega)⟩ (fun v159 u157 H locs hw158 hP hD hS => ?_)
    obtain ⟨w, _⟩ := u157
    obtain ⟨hw158, hO⟩ := hw158
    obtain rfl : v159 = some (.int (nI (tyN ((B 11)) sz tk))) := hw158
    have hO : OKP G h0 a (upd (upd (upd (upd (upd F 2 (nI sz)) 5 (nI cs)) 7 (nI hd)) 12 (nI vr)) 13 as9) (updR (updR R 2 (.ref pq)) 3 (.ref mq)) Z B J K w := hO.to rfl
    refine W.widen (k := 0) (n := 0) (Nat.le_of_ble_eq_true rfl) (Nat.le_of_ble_eq_true rfl) ?_
    refine W.eq (g2 := F0 m 136 ls [.int (nI (tyN ((B 11)) sz tk)), .int (nI ty156), .int 21, .ref (a 4)]) rfl ?_
    rw [hty156]
    have hob9 := hob hkd
    have hob8 : ty156 < 60 ∧ (bX pb).1 ty156 := by rw [← hty156, ← htk]; exact hob9
    have hob7 := hob8.1
    have hO : OKW G h0 a (upd (upd (upd (upd (upd (upd (upd F 2 (nI sz)) 5 (nI cs)) 7 (nI hd)) 12 (nI vr)) 13 as9) 5 (nI cs)) 7 (nI hd)) (updR (updR R 2 (.ref pq)) 3 (.ref mq)) Z B J K.1 (fun q99 x99 => x99 = rep G a K q99) w := hO.to rfl
    obtain ⟨_, qr165, hqr166⟩ := hO.2.1 24 _ (sg_24 G h0 a _ _ _ _ _)
    refine pc_V0 (G := G) (As := [.int 21, .int (nI ty156), .int (nI ty156)]) (rest := []) hx hb hml hown hq hE hX pX0_al hP hD hS hA hl.1 (Y_give l G h0 a (upd (upd (upd (upd (upd F 2 (nI sz)) 5 (nI cs)) 7 (nI hd)) 12 (nI vr)) 13 as9) (updR (updR R 2 (.ref pq)) 3 (.ref mq)) Z B J K.1 (fun q99 x99 => x99 = rep G a K q99) w 21 (nI ty156) (nI ty156) cs hd (by omega) hO) (gV pw_158 pw_159 pw_160 pw_63 pw_128) hV_X0_give qr165 0 hqr166 rfl rfl rfl (Nat.le_of_ble_eq_true rfl) dX0_single_136 ⟨(by show 0 + 0 ≤ 1; omega), (by show 0 + 0 ≤ 6; omega)⟩ ⟨(by show 3 + 1 ≤ (5 * n + 33); omega), (by show 8 + (4 + 11) + 83 ≤ (200 * n + 560); omega)⟩ (fun v164 u162 H locs hw163 hP hD hS => ?_)
    obtain ⟨w, _⟩ := u162
    obtain ⟨hw163, hO⟩ := hw163
    obtain rfl : v164 = some (.int (nI ty156)) := hw163
    have hO : OKP G h0 a (upd (upd (upd (upd (upd F 2 (nI sz)) 5 (nI (cs + 1))) 7 (nI hd)) 12 (nI vr)) 13 as9) (updR (updR R 2 (.ref pq)) 3 (.ref mq)) Z (updA (updA (updA (updA B 16 (upd ((B 16)) cs 21)) 17 (upd ((B 17)) cs (nI ty156))) 18 (upd ((B 18)) cs 0)) 19 (upd ((B 19)) cs (nI hd))) J K w := hO.to rfl
    refine W.widen (k := 0) (n := 0) (Nat.le_of_ble_eq_true rfl) (Nat.le_of_ble_eq_true rfl) ?_
    refine W.eq (g2 := F0 m 139 ls [.int (nI ty156)]) rfl ?_
    have hsw167 : ∀ x9 : Nat, x9 < cs → (upd ((B 16)) cs 21) x9 = B 16 x9 := fun x9 hx9 => (if_neg (by omega)).trans ((fun _ _ => rfl) x9 hx9)
    have hsw168 : ∀ x9 : Nat, x9 < cs → (upd ((B 17)) cs (nI ty156)) x9 = B 17 x9 := fun x9 hx9 => (if_neg (by omega)).trans ((fun _ _ => rfl) x9 hx9)
    have hsw169 : ∀ x9 : Nat, x9 < cs → (upd ((B 18)) cs 0) x9 = B 18 x9 := fun x9 hx9 => (if_neg (by omega)).trans ((fun _ _ => rfl) x9 hx9)
    have hsw170 : ∀ x9 : Nat, x9 < cs → (upd ((B 19)) cs (nI hd)) x9 = B 19 x9 := fun x9 hx9 => (if_neg (by omega)).trans ((fun _ _ => rfl) x9 hx9)
    obtain ⟨Ag171, hev172⟩ : ∃ A5 : Nat → AS, okA → EvQ pb.1 pb.2.1 pb.2.2.1 pb.2.2.2 (B 16) (B 17) (B 18) (B 19) (upd ((B 16)) cs 21) (upd ((B 17)) cs (nI ty156)) (upd ((B 18)) cs 0) (upd ((B 19)) cs (nI hd)) Ag A5 pd m9 sn lo cs (cs + 1) as9 as9 hd sl (ty156 :: os) := ⟨(upS Ag (cs + 1) (rcA as9, hd, sl, (ty156 :: os))), fun z => (hev0 z).trans (EmS.make (hev0 z).1 (by show os.length ≤ 248; omega) hob8.1 hob8.2)⟩
    have hng9 : Nng (upd ((B 18)) cs 0) := Nng.set hng (k := 0) (by omega)
    have hng173 := hng9
    refine W_size (fun hz1 hz2 => ?_)
    refine vx_ret ?_
    have hz174 : SmW B (updA (updA (updA (updA B 16 (upd ((B 16)) cs 21)) 17 (upd ((B 17)) cs (nI ty156))) 18 (upd ((B 18)) cs 0)) 19 (upd ((B 19)) cs (nI hd))) cs := (fun x9 hx9 => ⟨hsw167 x9 hx9, hsw168 x9 hx9, hsw169 x9 hx9, hsw170 x9 hx9⟩)
    have hz175 : BdE K K := BdE.rfl
    have hz176 : BeF K K := BeF.rfl
    have hz177 : BeL K K none := BeL.rfl
    have hz178 : BeI K K g q := BeI.rfl
    have hz179 : Bth B (updA (updA (updA (updA B 16 (upd ((B 16)) cs 21)) 17 (upd ((B 17)) cs (nI ty156))) 18 (upd ((B 18)) cs 0)) 19 (upd ((B 19)) cs (nI hd))) := (show Thx (upd (upd (upd (upd (upd F 2 (nI sz)) 5 (nI cs)) 7 (nI hd)) 12 (nI vr)) 13 as9) (upd (upd (upd (upd (upd (upd F 2 (nI sz)) 5 (nI cs)) 7 (nI hd)) 12 (nI vr)) 13 as9) 5 (nI (cs + 1))) B (updA (updA (updA (updA B 16 (upd ((B 16)) cs 21)) 17 (upd ((B 17)) cs (nI ty156))) 18 (upd ((B 18)) cs 0)) 19 (upd ((B 19)) cs (nI hd))) from (Thx.b (Thx.b8 (Thx.b (Thx.b (Thx.f Thx.rfl (by omega)) (by omega) (by decide)) (by omega) (by decide)) hng173) (by omega) (by decide))).2
    have hz180 : BeR B (updA (updA (updA (updA B 16 (upd ((B 16)) cs 21)) 17 (upd ((B 17)) cs (nI ty156))) 18 (upd ((B 18)) cs 0)) 19 (upd ((B 19)) cs (nI hd))) := (BeR.up (k := 19) (f := (upd ((B 19)) cs (nI hd))) (BeR.up (k := 18) (f := (upd ((B 18)) cs 0)) (BeR.up (k := 17) (f := (upd ((B 17)) cs (nI ty156))) (BeR.up (k := 16) (f := (upd ((B 16)) cs 21)) BeR.rfl (by omega)) (by omega)) (by omega)) (by omega))
    have hz181 : ty156 < 128 := (by omega)
    have hz182 : cs ≤ (cs + 1) ∧ (cs + 1) + 0 ≤ cs + 2 * tlE g q := (by omega)
    have hz183 : AsE as9 as9 := AsE.rfl
    have hz184 : okA → PlQ pb B (updA (updA (updA (updA B 16 (upd ((B 16)) cs 21)) 17 (upd ((B 17)) cs (nI ty156))) 18 (upd ((B 18)) cs 0)) 19 (upd ((B 19)) cs (nI hd))) Ag Ag171 pd m9 sn lo cs (cs + 1) as9 as9 hd sl os ty156 (K.2.1 0 q) := (fun z => Or.inr ⟨by rw [rsO_ne (by omega)]; exact hev172 z, by omega⟩)
    have hO : OKP G h0 a (upd (upd (upd (upd (upd (upd (upd F 2 (nI sz)) 5 (nI (cs + 1))) 7 (nI hd)) 12 (nI vr)) 13 as9) 14 (F 14)) 15 (F 15)) (updR (updR R 2 (.ref pq)) 3 (.ref mq)) Z (updA (updA (updA (updA B 16 (upd ((B 16)) cs 21)) 17 (upd ((B 17)) cs (nI ty156))) 18 (upd ((B 18)) cs 0)) 19 (upd ((B 19)) cs (nI hd))) J K w := hO.to rfl
    refine W.widen (k := 1) (n := 6) (by omega) (by omega) ?_
    have hzz1 : H.size ≤ s.heap.size + (0) := (by have z : 0 ≤ 0 := (by omega); omega)
    have hzz2 : hSl H ≤ hSl s.heap + (0) := (by have z : 0 ≤ 0 := (by omega); omega)
    exact W.iret (v := (nI ty156)) hx hb hr (fun t99 ht99 hW99 => ⟨⟨_, (w, (K, (updA (updA (updA (updA B 16 (upd ((B 16)) cs 21)) 17 (upd ((B 17)) cs (nI ty156))) 18 (upd ((B 18)) cs 0)) 19 (upd ((B 19)) cs (nI hd))), (cs + 1), as9, (F 14), (F 15), ty156, Ag171)), rfl, ⟨rfl, hz174, hz175, hz176, hz177, hz178, hz179, hz180, hz181, hz182, hz183, hz184, hO⟩, by rw [ht99]; exact hP, hD, by rw [ht99]; exact hzz1, by rw [ht99]; exact hzz2⟩, hS.F ht99⟩) hS.2.2 dX0_single_139
  refine lv_tableOut (tgt := 140) hx hb dX0_single_4 (sw_out8 h1 h30 h42 h54 h78 h102 h114 h138 h150) (by decide) ?_
  refine lv_bipush (v := 63) hx hb dX0_single_140 (by decide) ?_
  refine W_size (fun hz1 hz2 => ?_)
  refine vx_ret ?_
  have hz185 : SmW B B cs := (fun x9 hx9 => ⟨(fun _ _ => rfl) x9 hx9, (fun _ _ => rfl) x9 hx9, (fun _ _ => rfl) x9 hx9, (fun _ _ => rfl) x9 hx9⟩)
  have hz186 : BdE K K := BdE.rfl
  have hz187 : BeF K K := BeF.rfl
  have hz188 : BeL K K none := BeL.rfl
  have hz189 : BeI K K g q := BeI.rfl
  have hz190 : Bth B B := (show Thx (upd (upd (upd (upd (upd F 2 (nI sz)) 5 (nI cs)) 7 (nI hd)) 12 (nI vr)) 13 as9) (upd (upd (upd (upd (upd F 2 (nI sz)) 5 (nI cs)) 7 (nI hd)) 12 (nI vr)) 13 as9) B B from Thx.rfl).2
  have hz191 : BeR B B := BeR.rfl
  have hz192 : 63 < 128 := (by omega)
  have hz193 : cs ≤ cs ∧ cs + 0 ≤ cs + 2 * tlE g q := (by omega)
  have hz194 : AsE as9 as9 := AsE.rfl
  have hz195 : okA → PlQ pb B B Ag Ag pd m9 sn lo cs cs as9 as9 hd sl os 63 (K.2.1 0 q) := (fun z => Or.inl ⟨rfl, hck⟩)
  have hO : OKP G h0 a (upd (upd (upd (upd (upd (upd (upd F 2 (nI sz)) 5 (nI cs)) 7 (nI hd)) 12 (nI vr)) 13 as9) 14 (F 14)) 15 (F 15)) (updR (updR R 2 (.ref pq)) 3 (.ref mq)) Z B J K w := hO.to rfl
  refine W.widen (k := 1) (n := 6) (by omega) (by omega) ?_
  have hzz1 : s.heap.size ≤ s.heap.size + (0) := (by have z : 0 ≤ 0 := (by omega); omega)
  have hzz2 : hSl s.heap ≤ hSl s.heap + (0) := (by have z : 0 ≤ 0 := (by omega); omega)
  exact W.iret (v := 63) hx hb hr (fun t99 ht99 hW99 => ⟨⟨_, (w, (K, B, cs, as9, (F 14), (F 15), 63, Ag)), rfl, ⟨rfl, hz185, hz186, hz187, hz188, hz189, hz190, hz191, hz192, hz193, hz194, hz195, hO⟩, by rw [ht99]; exact hP, hD, by rw [ht99]; exact hzz1, by rw [ht99]; exact hzz2⟩, hS.F ht99⟩) hS.2.2 dX0_single_142

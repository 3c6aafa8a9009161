set_option maxHeartbeats 24000000 in
set_option maxRecDepth 100000 in
theorem Y_signE (l : Launch) (G : pT) (h0 : Nat) (a : Nat → Nat) (F : Nat → Int32) (R : Nat → Value) (Z : Int64) (B : Nat → Nat → Int32) (J : Nat → Nat → Int64) (K : PK) (w : va_W) (pq : Nat) (dr : Nat) (ml : Nat) (nd : Nat) (nm : Nat) (cp : Nat) (it : Nat → Nat) (s9 : Nat) (q : Nat) (mq : Nat) (cs : Nat) (vr : Nat) (sz : Nat) (n : Nat) (q1 : Nat) (q2 : Nat) (x : Int32) (g : Nat → Nat → Nat) (rk : Nat → Nat) (pb : PNb) (Ag : Nat → AS) (pd : Nat → Prop) (sl : Nat → Nat) (os : List Nat) (m9 : Nat) (sn : Nat) (lo : Nat) (hd : Nat) (c0 : Nat) (as9 : Int32) (okA : Prop) (hsz : sz ≤ 5000) (hwp : WPr G K g) (hps : PgT G K g (a 1) pq dr ml nd nm cp it s9) (hrk : RkO K rk) (hcs : cs ≤ 10000) (hvr : vr ≤ 30) (hng : Nng (B 18)) (hmq : K.1 mq = 3) (hqT : K.1 q = 1) (hqL : 1 ≤ g 0 q ∧ g 0 q ≤ n) (hek : EkA pb K g (B 7) (B 11) sz) (hcO : OwC K dr mq c0) (hna : NaB pb G K (B 11) dr nd sz) (hen : EnV (B 26) (B 27) nd vr hd c0 sl) (hem : okA → EmB pb B Ag pd m9 sn lo cs as9 hd sl os) (hrm : cs + 2 * tlE g q ≤ 10000) (hop : os.length + ndE g q ≤ 248) (hlf : 1 ≤ tlE g q ∧ 1 ≤ ndE g q) (hc0 : K.2.2.1 0 q = some q1) (ht0 : K.1 q1 = 1) (hv0 : 1 ≤ g 0 q1 ∧ g 0 q1 + 1 ≤ n) (hlf0 : 1 ≤ tlE g q1 ∧ 1 ≤ ndE g q1) (hin0 : InE g q q1) (hc1 : K.2.2.1 1 q = some q2) (ht1 : K.1 q2 = 1) (hv1 : 1 ≤ g 0 q2 ∧ g 0 q2 + 1 ≤ n) (hlf1 : 1 ≤ tlE g q2 ∧ 1 ≤ ndE g q2) (hin1 : InE g q q2) (htl : tlE g q1 + tlE g q2 + 1 ≤ tlE g q) (hnd0 : ndE g q1 ≤ ndE g q) (hnd1 : ndE g q2 + 1 ≤ ndE g q) (hsk : SnK x) (ihv : IhY l G n) (hO : OKP G h0 a (upd (upd (upd (upd (upd F 2 (nI sz)) 5 (nI cs)) 7 (nI hd)) 12 (nI vr)) 13 as9) (updR (updR R 2 (.ref pq)) 3 (.ref mq)) Z B J K w) (hl0 : l.stackTraces = false) : PBn l G pX0 yX0_sign cX0_sign 5 (some .int) ({ frames := (5 * n + 33), cells := 1, slots := 6, locals := (200 * n + 560) }) [.ref (a 4), .ref q, .int x] w (fun (v : Option Value) (u : va_W × (PK × (Nat → Nat → Int32) × Nat × Int32 × Int32 × Int32 × Nat × (Nat → AS))) => v = some (.int (nI u.2.2.2.2.2.2.2.1)) ∧ (SmW B u.2.2.1 cs) ∧ (BdE K u.2.1) ∧ (BeF K u.2.1) ∧ (BeL K u.2.1 none) ∧ (BeI K u.2.1 g q) ∧ (Bth B u.2.2.1) ∧ (BeR B u.2.2.1) ∧ (u.2.2.2.2.2.2.2.1 < 128) ∧ (cs ≤ u.2.2.2.1 ∧ u.2.2.2.1 + 0 ≤ cs + 2 * tlE g q) ∧ (AsE as9 u.2.2.2.2.1) ∧ (okA → PlQ pb B u.2.2.1 Ag u.2.2.2.2.2.2.2.2 pd m9 sn lo cs u.2.2.2.1 as9 u.2.2.2.2.1 hd sl os u.2.2.2.2.2.2.2.1 (K.2.1 0 q)) ∧ (OKP G h0 a (upd (upd (upd (upd (upd (upd (upd F 2 (nI sz)) 5 (nI u.2.2.2.1)) 7 (nI hd)) 12 (nI vr)) 13 u.2.2.2.2.1) 14 u.2.2.2.2.2.1) 15 u.2.2.2.2.2.2.1) (updR (updR R 2 (.ref pq)) 3 (.ref mq)) Z u.2.2.1 J u.2.1 u.1)) (fun u => u.1) (fun (u : va_W × (PK × (Nat → Nat → Int32) × Nat × Int32 × Int32 × Int32 × Nat × (Nat → AS))) => 0) (fun (u : va_W × (PK × (Nat → Nat → Int32) × Nat × Int32 × Int32 × Int32 × Nat × (Nat → AS))) => 0) (fun (u : va_W × (Nat → Int32) × (Nat → Value) × (Nat → Nat → Int32)) => ThQ G h0 a (upd (upd (upd (upd (upd F 2 (nI sz)) 5 (nI cs)) 7 (nI hd)) 12 (nI vr)) 13 as9) (updR (updR R 2 (.ref pq)) 3 (.ref mq)) Z B J u) (fun u => u.1) := by
  intro sz
  refine vx_ofW (cc := cX0_sign) (maxL := 5) (ret := (some .int)) (by decide) rfl ?_
  intro p e s m args below meth c s₁ B9 hml hnt hv
  obtain ⟨rfl, hsz, hP, hD0, hE, hX⟩ := hv
  have hx := B9.exec
  have hb := B9.bytes
  have hr := B9.returns
  have hts := atoms_spec (ws := Cond.code yX0_sign cX0_sign 5 (some .int) :: pw) B9.pre
  have hq : ∀ w ∈ pw, w.before _ s = true := fun w h => hts w (List.mem_cons_of_mem _ h)
  have hown : s.vm.findClass RX0 = some m.cls := findClass_of_methodNamed B9.named
  have hlocks := B9.notSynchronized
  subst hsz
  have hD := hD0.self (sz := s.heap.size)
  have hA : ∀ q : Nat, s.heap.size ≤ q → va_A w s.heap.size q := fun q h => Or.inr h
  generalize va_A w s.heap.size = A at hD hE hA ⊢
  have hS : va_S A s.heap s.heap [] := va_S.rf
  have hl := lv_entry ([.ref (a 4), .ref q, .int x]) (n := 5) (Nat.le_of_ble_eq_true rfl)
  rw [lg_entry_eq]
  generalize (lg_sl ([.ref (a 4), .ref q, .int x]) ++ List.replicate (5 - (lg_sl ([.ref (a 4), .ref q, .int x])).length) Slot.unset).toArray = ls at hl ⊢
  have hl : lv_has ls 5 [(0, .ref (a 4)), (1, .ref q), (2, .int x)] := hl
  have hpg := hps.1
  have hp1 := hpg.1
  have hp2 := hpg.2.1
  have hp3 := hpg.2.2.1
  have hp4 := hpg.2.2.2.1
  have hp5 := hpg.2.2.2.2.1
  have hp6 := hpg.2.2.2.2.2.1
  have hp8 := hpg.2.2.2.2.2.2.2.1
  have hp9 := hpg.2.2.2.2.2.2.2.2
  have hdr0 : ¬ K.1 dr = 0 := by rw [hp4]; decide
  have hev0 : okA → EvQ pb.1 pb.2.1 pb.2.2.1 pb.2.2.2 (B 16) (B 17) (B 18) (B 19) (B 16) (B 17) (B 18) (B 19) Ag Ag pd m9 sn lo cs cs as9 as9 hd sl os := fun z => EvB.nil (hem z)
  refine lv_aload_n hx hb dX0_sign_0 rfl (lv_at hl 0 rfl) ?_
  refine lv_aload_n hx hb dX0_sign_1 rfl (lv_at hl 1 rfl) ?_
  refine p_get (v := .ref q1) (C := RX7) (Tc := TX7) (N := 11) (ci := 13) hx hb hq pin_wsX70 hown hE hP hO (by rw [hqT]; decide) (rep_1 hqT) rfl 6 (by decide) (hq _ pw_180) (fun _ h9 => h9) (congrArg (fun z => some (va_rf z)) hc0) dX0_sign_2 ?_
  have hO : OKP G h0 a (upd (upd (upd (upd (upd (upd (upd (upd (upd (upd F 2 (nI sz)) 5 (nI cs)) 7 (nI hd)) 12 (nI vr)) 13 as9) 2 (nI sz)) 5 (nI cs)) 7 (nI hd)) 12 (nI vr)) 13 as9) (updR (updR (updR (updR R 2 (.ref pq)) 3 (.ref mq)) 2 (.ref pq)) 3 (.ref mq)) Z B J K w := hO.to rfl
  obtain ⟨_, qr4, hqr5⟩ := hO.2.1 24 _ (sg_24 G h0 a _ _ _ _ _)
  refine pn_V0 (G := G) (As := [.ref q1]) (rest := []) hx hb hml hown hq hE hX pX0_al hP hD hS hA hl.1 ((ihv (by omega)) h0 a (upd (upd (upd (upd (upd F 2 (nI sz)) 5 (nI cs)) 7 (nI hd)) 12 (nI vr)) 13 as9) (updR (updR R 2 (.ref pq)) 3 (.ref mq)) Z B J K w pq dr ml nd nm cp it s9 q1 mq cs vr sz g rk pb Ag pd sl os m9 sn lo hd c0 as9 okA (by omega) (BdE.wp BdE.rfl hwp) (BdE.pt BdE.rfl hwp hps) (BdE.rko BdE.rfl hrk) (by omega) (by omega) hng hmq ht0 ⟨hv0.1, (by have z9 := hv0; omega)⟩ (EkA.be BdE.rfl (BeR.rfl 7 (by decide)) (BeR.rfl 11 (by decide)) hek) (OwC.be BdE.rfl hmq hdr0 hcO) (NaB.be BdE.rfl BeF.rfl hwp hps.2.1 hdr0 (BeR.rfl 11 (by decide)) hna) (EnV.of (BeR.rfl 26 (by decide)) (BeR.rfl 27 (by decide)) hen) (fun z => (hev0 z).1) (by omega) (by show os.length + ndE g q1 ≤ 248; omega) hlf0 hO hl0) (gV pw_173 pw_174 pw_175 pw_63 pw_224) hV_X0_value qr4 0 hqr5 rfl rfl rfl (Nat.le_of_ble_eq_true rfl) dX0_sign_5 ⟨(by show 0 + 1 ≤ 1; omega), (by show 0 + 6 ≤ 6; omega)⟩ ⟨(by show (5 * (n - 1) + 34) + 1 ≤ (5 * n + 33); omega), (by show 8 + (3 + 11) + (200 * (n - 1) + 600) ≤ (200 * n + 560); omega)⟩ (fun v3 u1 H locs hw2 hP hD hS => ?_) (fun ux ce9 q9 H9 locs9 hux hP9 hD9 hS9 hce hcv hcl => pb_out ux (ThQ.up (Thx.same (Thx.same (Thx.same (Thx.same (Thx.same Thx.rfl rfl) rfl) rfl) rfl) rfl) (show RhX (updR (updR R 2 (.ref pq)) 3 (.ref mq)) (updR (updR (updR (updR R 2 (.ref pq)) 3 (.ref mq)) 2 (.ref pq)) 3 (.ref mq)) from fun k9 hk9 => by unfold updR; simp only [show ¬ k9 = 1 by omega, show ¬ k9 = 2 by omega, show ¬ k9 = 3 by omega, show ¬ k9 = 4 by omega, if_false]) hux) hnt hlocks hce hcv hcl hP9 hD9 hS9 (by show 0 + 1 ≤ 1; omega) (by show 0 + 6 ≤ 6; omega))
  obtain ⟨w, K6, B7, cs8, as10, wt11, wf12, t13, Ag14, u15⟩ := u1
  obtain ⟨hw2, h16, h17, h18, h19, h20, h21, h22, h23, h24, h25, h26, h27, hO⟩ := hw2
  have h16 : SmW B B7 cs := h16
  have h17 : BdE K K6 := h17
  have h18 : BeF K K6 := h18
  have h19 : BeL K K6 none := h19
  have h20 : BeI K K6 g q1 := h20
  have h21 : Bth B B7 := h21
  have h22 : BeR B B7 := h22
  have h23 : t13 < 128 := h23
  have h24 : cs ≤ cs8 ∧ cs8 + 0 ≤ cs + 2 * tlE g q1 := h24
  have h25 : AsE as9 as10 ∧ AsE as9 wt11 ∧ AsE as9 wf12 := h25
  have h26 : okA → VaQ pb B B7 Ag Ag14 pd m9 sn lo cs cs8 as9 as10 wt11 wf12 hd sl os t13 u15 (K.2.1 0 q1) := h26
  have h27 : CaK (K.2.1 0 q1) → cs8 + 2 ≤ cs + 2 * tlE g q1 := h27
  obtain rfl : v3 = some (.int (nI t13)) := hw2
  have hf28 : K6.1 pq = 7 := (BdE.T h17 hp1 (by decide))
  have hf29 : K6.2.2.1 18 pq = some (a 1) := (BdE.C h17 (by rw [hp1]; decide) 18).trans hp2
  have hf30 : K6.2.2.1 14 pq = some dr := (BdE.C h17 (by rw [hp1]; decide) 14).trans hp3
  have hf31 : K6.1 dr = 8 := (BdE.T h17 hp4 (by decide))
  have hf32 : K6.2.2.1 15 pq = some ml := (BdE.C h17 (by rw [hp1]; decide) 15).trans hp5
  have hf33 : K6.1 ml = 5 := (BdE.T h17 hp6 (by decide))
  have hf34 : K6.2.1 24 pq = (nI nd) := (BdE.I h17 (by rw [hp1]; decide) (by decide) (by decide)).trans hp8
  have hf35 : K6.1 q = 1 := (BdE.T h17 hqT (by decide))
  have hf36 : K6.1 mq = 3 := (BdE.T h17 hmq (by decide))
  have hf37 : K6.2.2.1 0 q = some q1 := (BdE.C h17 (by rw [hqT]; decide) 0).trans hc0
  have hf38 : K6.1 q1 = 1 := (BdE.T h17 ht0 (by decide))
  have hf39 : K6.2.2.1 1 q = some q2 := (BdE.C h17 (by rw [hqT]; decide) 1).trans hc1
  have hf40 : K6.1 q2 = 1 := (BdE.T h17 ht1 (by decide))
  have hO : OKP G h0 a (upd (upd (upd (upd (upd (upd (upd F 2 (nI sz)) 5 (nI cs8)) 7 (nI hd)) 12 (nI vr)) 13 as10) 14 wt11) 15 wf12) (updR (updR R 2 (.ref pq)) 3 (.ref mq)) Z B7 J K6 w := hO.to rfl
  refine W.widen (k := 0) (n := 0) (by show 0 + 0 ≤ 0; omega) (by show 0 + 0 ≤ 0; omega) ?_
  refine W.eq (g2 := F0 m 8 ls [.int (nI t13)]) rfl ?_
  have hbe41 := BdE.trans BdE.rfl h17
  have hbb42 : Bth B B7 := Bth.trans (show Thx (upd (upd (upd (upd (upd F 2 (nI sz)) 5 (nI cs)) 7 (nI hd)) 12 (nI vr)) 13 as9) (upd (upd (upd (upd (upd F 2 (nI sz)) 5 (nI cs)) 7 (nI hd)) 12 (nI vr)) 13 as9) B B from Thx.rfl).2 h21
  have hng43 : Nng (B7 18) := h21.2 hng
  have hsw44 : ∀ x9 : Nat, x9 < cs → (B7 16) x9 = B 16 x9 := fun x9 hx9 => ((h16 x9 (by omega)).1).trans ((fun _ _ => rfl) x9 hx9)
  have hsw45 : ∀ x9 : Nat, x9 < cs → (B7 17) x9 = B 17 x9 := fun x9 hx9 => ((h16 x9 (by omega)).2.1).trans ((fun _ _ => rfl) x9 hx9)
  have hsw46 : ∀ x9 : Nat, x9 < cs → (B7 18) x9 = B 18 x9 := fun x9 hx9 => ((h16 x9 (by omega)).2.2.1).trans ((fun _ _ => rfl) x9 hx9)
  have hsw47 : ∀ x9 : Nat, x9 < cs → (B7 19) x9 = B 19 x9 := fun x9 hx9 => ((h16 x9 (by omega)).2.2.2).trans ((fun _ _ => rfl) x9 hx9)
  have hbf48 := BeF.trans BeF.rfl h18 BdE.rfl
  have hbl51 := BeL.trans BeL.rfl h19 BdE.rfl
  have hbi52 := BeI.trans BeI.rfl h20 BdE.rfl hin0
  have hbr49 : BeR B B7 := BeR.trans BeR.rfl h22
  have hpt50 : (okA ∧ ¬ t13 = 63) → EvQ pb.1 pb.2.1 pb.2.2.1 pb.2.2.2 (B 16) (B 17) (B 18) (B 19) (B7 16) (B7 17) (B7 18) (B7 19) Ag Ag14 pd m9 sn lo cs cs8 as9 as10 hd sl (u15 :: os) ∧ UTb u15 (nI t13) as10 wt11 wf12 := fun z => VaQ.part (B1 := B) (hev0 z.1) (h26 z.1) h23 z.2
  have hev53 := fun z => (hpt50 z).1
  have has54 : AsE as9 as10 ∧ AsE as9 wt11 ∧ AsE as9 wf12 := ⟨AsE.trans AsE.rfl h25.1, AsE.trans AsE.rfl h25.2.1, AsE.trans AsE.rfl h25.2.2⟩
  refine lv_istore_n (lv' := [(3, .int (nI t13)), (0, .ref (a 4)), (1, .ref q), (2, .int x)]) hx hb dX0_sign_8 rfl hl (by decide) rfl (fun ls hl => ?_)
  refine lv_iload_n hx hb dX0_sign_9 rfl (lv_at hl 3 rfl) ?_
  by_cases h55 : x = 49
  · subst h55
    refine lv_tableIn (tgt := 112) (off := 102) hx hb dX0_sign_10 (by decide) (by decide) (by decide) (by decide) ?_
    refine lv_iload_n hx hb dX0_sign_112 rfl (lv_at hl 0 rfl) ?_
    refine lv_bipush (v := 60) hx hb dX0_sign_113 (by decide) ?_
    refine lv_icmp_eq (tgt := 140) hx hb dX0_sign_115 (by decide) (fun c56 => ?_) (fun c56 => ?_)
    · have n57 : t13 = 60 := (nI_eq (a := t13) (b := 60) (by omega) (by omega)).mp c56
      refine lv_aload_n hx hb dX0_sign_140 rfl (lv_at hl 1 rfl) ?_
      refine lv_aload_n hx hb dX0_sign_141 rfl (lv_at hl 2 rfl) ?_
      refine p_get (v := .ref q2) (C := RX7) (Tc := TX7) (N := 11) (ci := 13) hx hb hq pin_wsX70 hown hE hP hO (by rw [hf35]; decide) (rep_1 hf35) rfl 7 (by decide) (hq _ pw_169) (fun _ h9 => h9) (congrArg (fun z => some (va_rf z)) hf39) dX0_sign_142 ?_
      refine lv_aload_n hx hb dX0_sign_145 rfl (lv_at hl 1 rfl) ?_
      refine lv_aload_n hx hb dX0_sign_146 rfl (lv_at hl 2 rfl) ?_
      refine p_get (v := .ref q2) (C := RX7) (Tc := TX7) (N := 11) (ci := 13) hx hb hq pin_wsX70 hown hE hP hO (by rw [hf35]; decide) (rep_1 hf35) rfl 7 (by decide) (hq _ pw_169) (fun _ h9 => h9) (congrArg (fun z => some (va_rf z)) hf39) dX0_sign_147 ?_
      have hO : OKP G h0 a (upd (upd (upd (upd (upd (upd (upd (upd (upd (upd (upd (upd (upd (upd F 2 (nI sz)) 5 (nI cs)) 7 (nI hd)) 12 (nI vr)) 13 as9) 5 (nI cs8)) 13 as10) 14 wt11) 15 wf12) 2 (nI sz)) 5 (nI cs8)) 7 (nI hd)) 12 (nI vr)) 13 as10) (updR (updR (updR (updR R 2 (.ref pq)) 3 (.ref mq)) 2 (.ref pq)) 3 (.ref mq)) Z B7 J K6 w := hO.to rfl
      obtain ⟨_, qr61, hqr62⟩ := hO.2.1 24 _ (sg_24 G h0 a _ _ _ _ _)
      refine pn_V0 (G := G) (As := [.ref q2]) (rest := [.ref q2, .ref (a 4)]) hx hb hml hown hq hE hX pX0_al hP hD hS hA hl.1 ((ihv (by omega)) h0 a (upd (upd (upd (upd (upd (upd (upd (upd (upd F 2 (nI sz)) 5 (nI cs)) 7 (nI hd)) 12 (nI vr)) 13 as9) 5 (nI cs8)) 13 as10) 14 wt11) 15 wf12) (updR (updR R 2 (.ref pq)) 3 (.ref mq)) Z B7 J K6 w pq dr ml nd nm cp it s9 q2 mq cs8 vr sz g rk pb Ag14 pd sl (u15 :: os) m9 sn lo hd c0 as10 (okA ∧ ¬ t13 = 63) (by omega) (BdE.wp hbe41 hwp) (BdE.pt hbe41 hwp hps) (BdE.rko hbe41 hrk) (by omega) (by omega) hng43 hf36 hf40 ⟨hv1.1, (by have z9 := hv1; omega)⟩ (EkA.be hbe41 (hbr49 7 (by decide)) (hbr49 11 (by decide)) hek) (OwC.be hbe41 hmq hdr0 hcO) (NaB.be hbe41 hbf48 hwp hps.2.1 hdr0 (hbr49 11 (by decide)) hna) (EnV.of (hbr49 26 (by decide)) (hbr49 27 (by decide)) hen) (fun z => (hev53 z).1) (by omega) (by show os.length + 1 + ndE g q2 ≤ 248; omega) hlf1 hO hl0) (gV pw_173 pw_174 pw_175 pw_63 pw_224) hV_X0_value qr61 0 hqr62 rfl rfl rfl (Nat.le_of_ble_eq_true rfl) dX0_sign_150 ⟨(by show 0 + 1 ≤ 1; omega), (by show 0 + 6 ≤ 6; omega)⟩ ⟨(by show (5 * (n - 1) + 34) + 1 ≤ (5 * n + 33); omega), (by show 8 + (3 + 11) + (200 * (n - 1) + 600) ≤ (200 * n + 560); omega)⟩ (fun v60 u58 H locs hw59 hP hD hS => ?_) (fun ux ce9 q9 H9 locs9 hux hP9 hD9 hS9 hce hcv hcl => pb_out ux (ThQ.up (Thx.same (Thx.same (Thx.same (Thx.same (Thx.same (Thx.f (Thx.f (Thx.f (Thx.f (Bth.thx hbb42) (by omega)) (by omega)) (by omega)) (by omega)) rfl) rfl) rfl) rfl) rfl) (show RhX (updR (updR R 2 (.ref pq)) 3 (.ref mq)) (updR (updR (updR (updR R 2 (.ref pq)) 3 (.ref mq)) 2 (.ref pq)) 3 (.ref mq)) from fun k9 hk9 => by unfold updR; simp only [show ¬ k9 = 1 by omega, show ¬ k9 = 2 by omega, show ¬ k9 = 3 by omega, show ¬ k9 = 4 by omega, if_false]) hux) hnt hlocks hce hcv hcl hP9 hD9 hS9 (by show 0 + 1 ≤ 1; omega) (by show 0 + 6 ≤ 6; omega))
      obtain ⟨w, K63, B64, cs65, as66, wt67, wf68, t69, Ag70, u71⟩ := u58
      obtain ⟨hw59, h72, h73, h74, h75, h76, h77, h78, h79, h80, h81, h82, h83, hO⟩ := hw59
      have h72 : SmW B7 B64 cs8 := h72
      have h73 : BdE K6 K63 := h73
      have h74 : BeF K6 K63 := h74
      have h75 : BeL K6 K63 none := h75
      have h76 : BeI K6 K63 g q2 := h76
      have h77 : Bth B7 B64 := h77
      have h78 : BeR B7 B64 := h78
      have h79 : t69 < 128 := h79
      have h80 : cs8 ≤ cs65 ∧ cs65 + 0 ≤ cs8 + 2 * tlE g q2 := h80
      have h81 : AsE as10 as66 ∧ AsE as10 wt67 ∧ AsE as10 wf68 := h81
      have h82 : (okA ∧ ¬ t13 = 63) → VaQ pb B7 B64 Ag14 Ag70 pd m9 sn lo cs8 cs65 as10 as66 wt67 wf68 hd sl (u15 :: os) t69 u71 (K6.2.1 0 q2) := h82
      have h83 : CaK (K6.2.1 0 q2) → cs65 + 2 ≤ cs8 + 2 * tlE g q2 := h83
      obtain rfl : v60 = some (.int (nI t69)) := hw59
      have hf84 : K63.1 pq = 7 := (BdE.T h73 hf28 (by decide))
      have hf85 : K63.2.2.1 18 pq = some (a 1) := (BdE.C h73 (by rw [hf28]; decide) 18).trans hf29
      have hf86 : K63.2.2.1 14 pq = some dr := (BdE.C h73 (by rw [hf28]; decide) 14).trans hf30
      have hf87 : K63.1 dr = 8 := (BdE.T h73 hf31 (by decide))
      have hf88 : K63.2.2.1 15 pq = some ml := (BdE.C h73 (by rw [hf28]; decide) 15).trans hf32
      have hf89 : K63.1 ml = 5 := (BdE.T h73 hf33 (by decide))
      have hf90 : K63.2.1 24 pq = (nI nd) := (BdE.I h73 (by rw [hf28]; decide) (by decide) (by decide)).trans hf34
      have hf91 : K63.1 q = 1 := (BdE.T h73 hf35 (by decide))
      have hf92 : K63.1 mq = 3 := (BdE.T h73 hf36 (by decide))
      have hf93 : K63.2.2.1 0 q = some q1 := (BdE.C h73 (by rw [hf35]; decide) 0).trans hf37
      have hf94 : K63.1 q1 = 1 := (BdE.T h73 hf38 (by decide))
      have hf95 : K63.2.2.1 1 q = some q2 := (BdE.C h73 (by rw [hf35]; decide) 1).trans hf39
      have hf96 : K63.1 q2 = 1 := (BdE.T h73 hf40 (by decide))
      have hO : OKP G h0 a (upd (upd (upd (upd (upd (upd (upd F 2 (nI sz)) 5 (nI cs65)) 7 (nI hd)) 12 (nI vr)) 13 as66) 14 wt67) 15 wf68) (updR (updR R 2 (.ref pq)) 3 (.ref mq)) Z B64 J K63 w := hO.to rfl
      refine W.widen (k := 0) (n := 0) (by show 0 + 0 ≤ 0; omega) (by show 0 + 0 ≤ 0; omega) ?_
      refine W.eq (g2 := F0 m 153 ls [.int (nI t69), .ref q2, .ref (a 4)]) rfl ?_
      have hbe97 := BdE.trans hbe41 h73
      have hbb98 : Bth B B64 := Bth.trans (show Thx (upd (upd (upd (upd (upd F 2 (nI sz)) 5 (nI cs)) 7 (nI hd)) 12 (nI vr)) 13 as9) (upd (upd (upd (upd (upd (upd (upd (upd (upd F 2 (nI sz)) 5 (nI cs)) 7 (nI hd)) 12 (nI vr)) 13 as9) 5 (nI cs8)) 13 as10) 14 wt11) 15 wf12) B B7 from (Thx.f (Thx.f (Thx.f (Thx.f (Bth.thx hbb42) (by omega)) (by omega)) (by omega)) (by omega))).2 h77
      have hng99 : Nng (B64 18) := h77.2 hng43
      have hsw100 : ∀ x9 : Nat, x9 < cs → (B64 16) x9 = B 16 x9 := fun x9 hx9 => ((h72 x9 (by omega)).1).trans (hsw44 x9 hx9)
      have hsw101 : ∀ x9 : Nat, x9 < cs → (B64 17) x9 = B 17 x9 := fun x9 hx9 => ((h72 x9 (by omega)).2.1).trans (hsw45 x9 hx9)
      have hsw102 : ∀ x9 : Nat, x9 < cs → (B64 18) x9 = B 18 x9 := fun x9 hx9 => ((h72 x9 (by omega)).2.2.1).trans (hsw46 x9 hx9)
      have hsw103 : ∀ x9 : Nat, x9 < cs → (B64 19) x9 = B 19 x9 := fun x9 hx9 => ((h72 x9 (by omega)).2.2.2).trans (hsw47 x9 hx9)
      have hbf104 := BeF.trans hbf48 h74 hbe41
      have hbl107 := BeL.trans hbl51 h75 hbe41
      have hbi108 := BeI.trans hbi52 h76 hbe41 hin1
      have hbr105 : BeR B B64 := BeR.trans hbr49 h78
      have hpt106 : ((okA ∧ ¬ t13 = 63) ∧ ¬ t69 = 63) → EvQ pb.1 pb.2.1 pb.2.2.1 pb.2.2.2 (B 16) (B 17) (B 18) (B 19) (B64 16) (B64 17) (B64 18) (B64 19) Ag Ag70 pd m9 sn lo cs cs65 as9 as66 hd sl (u71 :: (u15 :: os)) ∧ UTb u71 (nI t69) as66 wt67 wf68 := fun z => VaQ.part (B1 := B7) (hev53 z.1) (h82 z.1) h79 z.2
      have hev109 := fun z => (hpt106 z).1
      have has110 : AsE as9 as66 ∧ AsE as9 wt67 ∧ AsE as9 wf68 := ⟨AsE.trans has54.1 h81.1, AsE.trans has54.1 h81.2.1, AsE.trans has54.1 h81.2.2⟩
      refine lv_iload_n hx hb dX0_sign_153 rfl (lv_at hl 0 rfl) ?_
      have hO : OKP G h0 a (upd (upd (upd (upd (upd (upd (upd (upd (upd (upd F 2 (nI sz)) 5 (nI cs)) 7 (nI hd)) 12 (nI vr)) 13 as9) 5 (nI cs65)) 13 as66) 14 wt67) 15 wf68) 2 (nI sz)) (updR (updR (updR R 2 (.ref pq)) 3 (.ref mq)) 2 (.ref pq)) Z B64 J K63 w := hO.to rfl
      obtain ⟨_, qr114, hqr115⟩ := hO.2.1 24 _ (sg_24 G h0 a _ _ _ _ _)
      refine pn_V0 (G := G) (As := [.ref q2, .int (nI t69), .int (nI t13)]) (rest := []) hx hb hml hown hq hE hX pX0_al hP hD hS hA hl.1 (Y_fit l G h0 a (upd (upd (upd (upd (upd (upd (upd (upd (upd F 2 (nI sz)) 5 (nI cs)) 7 (nI hd)) 12 (nI vr)) 13 as9) 5 (nI cs65)) 13 as66) 14 wt67) 15 wf68) (updR (updR R 2 (.ref pq)) 3 (.ref mq)) Z B64 J K63 w pq dr ml nd q2 sz t69 t13 g pb (by omega) (BdE.pt hbe97 hwp hps).1 (BdE.pt hbe97 hwp hps).2.1 hf96 (by omega) hna.1.1 (NaB.be hbe97 hbf104 hwp hps.2.1 hdr0 (hbr105 11 (by decide)) hna).1.2.2 hO hl0) (gV pw_176 pw_177 pw_178 pw_63 pw_114) hV_X0_fit qr114 0 hqr115 rfl rfl rfl (Nat.le_of_ble_eq_true rfl) dX0_sign_154 ⟨(by show 0 + 1 ≤ 1; omega), (by show 0 + 6 ≤ 6; omega)⟩ ⟨(by show 7 + 1 ≤ (5 * n + 33); omega), (by show 8 + (4 + 11) + 122 ≤ (200 * n + 560); omega)⟩ (fun v113 u111 H locs hw112 hP hD hS => ?_) (fun ux ce9 q9 H9 locs9 hux hP9 hD9 hS9 hce hcv hcl => pb_out ux (ThQ.up (Thx.same (Thx.f (Thx.f (Thx.f (Thx.f (Bth.thx hbb98) (by omega)) (by omega)) (by omega)) (by omega)) rfl) (show RhX (updR (updR R 2 (.ref pq)) 3 (.ref mq)) (updR (updR (updR R 2 (.ref pq)) 3 (.ref mq)) 2 (.ref pq)) from fun k9 hk9 => by unfold updR; simp only [show ¬ k9 = 1 by omega, show ¬ k9 = 2 by omega, show ¬ k9 = 3 by omega, show ¬ k9 = 4 by omega, if_false]) hux) hnt hlocks hce hcv hcl hP9 hD9 hS9 (by show 0 + 1 ≤ 1; omega) (by show 0 + 6 ≤ 6; omega))
      obtain ⟨w, _⟩ := u111
      obtain ⟨hw112, h116, hO⟩ := hw112
      have h116 : FtQ pb t69 t13 := h116
      obtain rfl : v113 = none := hw112
      have hO : OKP G h0 a (upd (upd (upd (upd (upd (upd (upd F 2 (nI sz)) 5 (nI cs65)) 7 (nI hd)) 12 (nI vr)) 13 as66) 14 wt67) 15 wf68) (updR (updR R 2 (.ref pq)) 3 (.ref mq)) Z B64 J K63 w := hO.to rfl
      refine W.widen (k := 0) (n := 0) (by show 0 + 0 ≤ 0; omega) (by show 0 + 0 ≤ 0; omega) ?_
      refine W.eq (g2 := F0 m 157 ls []) rfl ?_
      refine lv_aload_n hx hb dX0_sign_157 rfl (lv_at hl 1 rfl) ?_
      refine lv_bipush (v := 10) hx hb dX0_sign_158 (by decide) ?_
      refine lv_iload_n hx hb dX0_sign_160 rfl (lv_at hl 3 rfl) ?_
      refine lv_iload_n hx hb dX0_sign_161 rfl (lv_at hl 0 rfl) ?_
      have hut117 := fun z : okA => (hpt50 ⟨z, (by omega)⟩).2
      have hut118 := fun z : okA => (hpt106 ⟨⟨z, (by omega)⟩, h116.1⟩).2
      have hev119 := fun z : okA => hev109 ⟨⟨z, (by omega)⟩, h116.1⟩
      have hfb := h116
      have he9 : t13 = 60 := by omega
      have hO : OKW G h0 a (upd (upd (upd (upd (upd (upd (upd (upd (upd F 2 (nI sz)) 5 (nI cs65)) 7 (nI hd)) 12 (nI vr)) 13 as66) 14 wt67) 15 wf68) 5 (nI cs65)) 7 (nI hd)) (updR (updR R 2 (.ref pq)) 3 (.ref mq)) Z B64 J K63.1 (fun q99 x99 => x99 = rep G a K63 q99) w := hO.to rfl
      obtain ⟨_, qr123, hqr124⟩ := hO.2.1 24 _ (sg_24 G h0 a _ _ _ _ _)
      refine pc_V0 (G := G) (As := [.int 10, .int 49, .int (nI t13)]) (rest := []) hx hb hml hown hq hE hX pX0_al hP hD hS hA hl.1 (Y_give l G h0 a (upd (upd (upd (upd (upd (upd (upd F 2 (nI sz)) 5 (nI cs65)) 7 (nI hd)) 12 (nI vr)) 13 as66) 14 wt67) 15 wf68) (updR (updR R 2 (.ref pq)) 3 (.ref mq)) Z B64 J K63.1 (fun q99 x99 => x99 = rep G a K63 q99) w 10 49 (nI t13) cs65 hd (by omega) hO) (gV pw_158 pw_159 pw_160 pw_63 pw_128) hV_X0_give qr123 0 hqr124 rfl rfl rfl (Nat.le_of_ble_eq_true rfl) dX0_sign_162 ⟨(by show 0 + 0 ≤ 1; omega), (by show 0 + 0 ≤ 6; omega)⟩ ⟨(by show 3 + 1 ≤ (5 * n + 33); omega), (by show 8 + (4 + 11) + 83 ≤ (200 * n + 560); omega)⟩ (fun v122 u120 H locs hw121 hP hD hS => ?_)
      obtain ⟨w, _⟩ := u120
      obtain ⟨hw121, hO⟩ := hw121
      obtain rfl : v122 = some (.int (nI t13)) := hw121
      have hO : OKP G h0 a (upd (upd (upd (upd (upd (upd (upd F 2 (nI sz)) 5 (nI (cs65 + 1))) 7 (nI hd)) 12 (nI vr)) 13 as66) 14 wt67) 15 wf68) (updR (updR R 2 (.ref pq)) 3 (.ref mq)) Z (updA (updA (updA (updA B64 16 (upd ((B64 16)) cs65 10)) 17 (upd ((B64 17)) cs65 49)) 18 (upd ((B64 18)) cs65 0)) 19 (upd ((B64 19)) cs65 (nI hd))) J K63 w := hO.to rfl
      refine W.widen (k := 0) (n := 0) (Nat.le_of_ble_eq_true rfl) (Nat.le_of_ble_eq_true rfl) ?_
      refine W.eq (g2 := F0 m 165 ls [.int (nI t13)]) rfl ?_
      have hsw125 : ∀ x9 : Nat, x9 < cs → (upd ((B64 16)) cs65 10) x9 = B 16 x9 := fun x9 hx9 => (if_neg (by omega)).trans (hsw100 x9 hx9)
      have hsw126 : ∀ x9 : Nat, x9 < cs → (upd ((B64 17)) cs65 49) x9 = B 17 x9 := fun x9 hx9 => (if_neg (by omega)).trans (hsw101 x9 hx9)
      have hsw127 : ∀ x9 : Nat, x9 < cs → (upd ((B64 18)) cs65 0) x9 = B 18 x9 := fun x9 hx9 => (if_neg (by omega)).trans (hsw102 x9 hx9)
      have hsw128 : ∀ x9 : Nat, x9 < cs → (upd ((B64 19)) cs65 (nI hd)) x9 = B 19 x9 := fun x9 hx9 => (if_neg (by omega)).trans (hsw103 x9 hx9)
      obtain ⟨Ag129, hev130⟩ : ∃ A5 : Nat → AS, okA → EvQ pb.1 pb.2.1 pb.2.2.1 pb.2.2.2 (B 16) (B 17) (B 18) (B 19) (upd ((B64 16)) cs65 10) (upd ((B64 17)) cs65 49) (upd ((B64 18)) cs65 0) (upd ((B64 19)) cs65 (nI hd)) Ag A5 pd m9 sn lo cs (cs65 + 1) as9 as66 hd sl (t13 :: os) := ⟨(upS Ag70 (cs65 + 1) (rcA as66, hd, sl, (t13 :: os))), fun z => (hev119 z).trans (EmS.sign (hev119 z).1 (by show os.length + 1 + 1 ≤ 248; omega) (u := t13) (by rw [he9]; exact SgT.bit (by decide)))⟩
      have hng9 : Nng (upd ((B64 18)) cs65 0) := Nng.set hng99 (k := 0) (by omega)
      have hng131 := hng9
      refine W_size (fun hz1 hz2 => ?_)
      refine vx_ret ?_
      have hz132 : SmW B (updA (updA (updA (updA B64 16 (upd ((B64 16)) cs65 10)) 17 (upd ((B64 17)) cs65 49)) 18 (upd ((B64 18)) cs65 0)) 19 (upd ((B64 19)) cs65 (nI hd))) cs := (fun x9 hx9 => ⟨hsw125 x9 hx9, hsw126 x9 hx9, hsw127 x9 hx9, hsw128 x9 hx9⟩)
      have hz133 : BdE K K63 := hbe97
      have hz134 : BeF K K63 := hbf104
      have hz135 : BeL K K63 none := hbl107
      have hz136 : BeI K K63 g q := hbi108
      have hz137 : Bth B (updA (updA (updA (updA B64 16 (upd ((B64 16)) cs65 10)) 17 (upd ((B64 17)) cs65 49)) 18 (upd ((B64 18)) cs65 0)) 19 (upd ((B64 19)) cs65 (nI hd))) := (show Thx (upd (upd (upd (upd (upd F 2 (nI sz)) 5 (nI cs)) 7 (nI hd)) 12 (nI vr)) 13 as9) (upd (upd (upd (upd (upd (upd (upd (upd (upd F 2 (nI sz)) 5 (nI cs)) 7 (nI hd)) 12 (nI vr)) 13 as9) 5 (nI (cs65 + 1))) 13 as66) 14 wt67) 15 wf68) B (updA (updA (updA (updA B64 16 (upd ((B64 16)) cs65 10)) 17 (upd ((B64 17)) cs65 49)) 18 (upd ((B64 18)) cs65 0)) 19 (upd ((B64 19)) cs65 (nI hd))) from (Thx.b (Thx.b8 (Thx.b (Thx.b (Thx.f (Thx.f (Thx.f (Thx.f (Bth.thx hbb98) (by omega)) (by omega)) (by omega)) (by omega)) (by omega) (by decide)) (by omega) (by decide)) hng131) (by omega) (by decide))).2
      have hz138 : BeR B (updA (updA (updA (updA B64 16 (upd ((B64 16)) cs65 10)) 17 (upd ((B64 17)) cs65 49)) 18 (upd ((B64 18)) cs65 0)) 19 (upd ((B64 19)) cs65 (nI hd))) := (BeR.up (k := 19) (f := (upd ((B64 19)) cs65 (nI hd))) (BeR.up (k := 18) (f := (upd ((B64 18)) cs65 0)) (BeR.up (k := 17) (f := (upd ((B64 17)) cs65 49)) (BeR.up (k := 16) (f := (upd ((B64 16)) cs65 10)) hbr105 (by omega)) (by omega)) (by omega)) (by omega))
      have hz139 : t13 < 128 := (by omega)
      have hz140 : cs ≤ (cs65 + 1) ∧ (cs65 + 1) + 0 ≤ cs + 2 * tlE g q := (by omega)
      have hz141 : AsE as9 as66 := has110.1
      have hz142 : okA → PlQ pb B (updA (updA (updA (updA B64 16 (upd ((B64 16)) cs65 10)) 17 (upd ((B64 17)) cs65 49)) 18 (upd ((B64 18)) cs65 0)) 19 (upd ((B64 19)) cs65 (nI hd))) Ag Ag129 pd m9 sn lo cs (cs65 + 1) as9 as66 hd sl os t13 (K.2.1 0 q) := (fun z => Or.inr ⟨by rw [rsO_ne (by omega)]; exact hev130 z, by omega⟩)
      have hO : OKP G h0 a (upd (upd (upd (upd (upd (upd (upd F 2 (nI sz)) 5 (nI (cs65 + 1))) 7 (nI hd)) 12 (nI vr)) 13 as66) 14 wt67) 15 wf68) (updR (updR R 2 (.ref pq)) 3 (.ref mq)) Z (updA (updA (updA (updA B64 16 (upd ((B64 16)) cs65 10)) 17 (upd ((B64 17)) cs65 49)) 18 (upd ((B64 18)) cs65 0)) 19 (upd ((B64 19)) cs65 (nI hd))) J K63 w := hO.to rfl
      refine W.widen (k := 1) (n := 6) (by omega) (by omega) ?_
      have hzz1 : H.size ≤ s.heap.size + (0) := (by have z : 0 ≤ 0 := (by omega); omega)
      have hzz2 : hSl H ≤ hSl s.heap + (0) := (by have z : 0 ≤ 0 := (by omega); omega)
      exact W.iret (v := (nI t13)) hx hb hr (fun t99 ht99 hW99 => ⟨⟨_, (w, (K63, (updA (updA (updA (updA B64 16 (upd ((B64 16)) cs65 10)) 17 (upd ((B64 17)) cs65 49)) 18 (upd ((B64 18)) cs65 0)) 19 (upd ((B64 19)) cs65 (nI hd))), (cs65 + 1), as66, wt67, wf68, t13, Ag129)), rfl, ⟨rfl, hz132, hz133, hz134, hz135, hz136, hz137, hz138, hz139, hz140, hz141, hz142, hO⟩, by rw [ht99]; exact hP, hD, by rw [ht99]; exact hzz1, by rw [ht99]; exact hzz2⟩, hS.F ht99⟩) hS.2.2 dX0_sign_165
    · have n143 : ¬ (t13 = 60) := fun h9 => c56 ((nI_eq (a := t13) (b := 60) (by omega) (by omega)).mpr h9)
      refine lv_iload_n hx hb dX0_sign_118 rfl (lv_at hl 0 rfl) ?_
      refine lv_bipush (v := 61) hx hb dX0_sign_119 (by decide) ?_
      refine lv_icmp_eq (tgt := 140) hx hb dX0_sign_121 (by decide) (fun c144 => ?_) (fun c144 => ?_)
      · have n145 : t13 = 61 := (nI_eq (a := t13) (b := 61) (by omega) (by omega)).mp c144
        refine lv_aload_n hx hb dX0_sign_140 rfl (lv_at hl 1 rfl) ?_
        refine lv_aload_n hx hb dX0_sign_141 rfl (lv_at hl 2 rfl) ?_
        refine p_get (v := .ref q2) (C := RX7) (Tc := TX7) (N := 11) (ci := 13) hx hb hq pin_wsX70 hown hE hP hO (by rw [hf35]; decide) (rep_1 hf35) rfl 7 (by decide) (hq _ pw_169) (fun _ h9 => h9) (congrArg (fun z => some (va_rf z)) hf39) dX0_sign_142 ?_
        refine lv_aload_n hx hb dX0_sign_145 rfl (lv_at hl 1 rfl) ?_
        refine lv_aload_n hx hb dX0_sign_146 rfl (lv_at hl 2 rfl) ?_
        refine p_get (v := .ref q2) (C := RX7) (Tc := TX7) (N := 11) (ci := 13) hx hb hq pin_wsX70 hown hE hP hO (by rw [hf35]; decide) (rep_1 hf35) rfl 7 (by decide) (hq _ pw_169) (fun _ h9 => h9) (congrArg (fun z => some (va_rf z)) hf39) dX0_sign_147 ?_
        have hO : OKP G h0 a (upd (upd (upd (upd (upd (upd (upd (upd (upd (upd (upd (upd (upd (upd F 2 (nI sz)) 5 (nI cs)) 7 (nI hd)) 12 (nI vr)) 13 as9) 5 (nI cs8)) 13 as10) 14 wt11) 15 wf12) 2 (nI sz)) 5 (nI cs8)) 7 (nI hd)) 12 (nI vr)) 13 as10) (updR (updR (updR (updR R 2 (.ref pq)) 3 (.ref mq)) 2 (.ref pq)) 3 (.ref mq)) Z B7 J K6 w := hO.to rfl
        obtain ⟨_, qr149, hqr150⟩ := hO.2.1 24 _ (sg_24 G h0 a _ _ _ _ _)
        refine pn_V0 (G := G) (As := [.ref q2]) (rest := [.ref q2, .ref (a 4)]) hx hb hml hown hq hE hX pX0_al hP hD hS hA hl.1 ((ihv (by omega)) h0 a (upd (upd (upd (upd (upd (upd (upd (upd (upd F 2 (nI sz)) 5 (nI cs)) 7 (nI hd)) 12 (nI vr)) 13 as9) 5 (nI cs8)) 13 as10) 14 wt11) 15 wf12) (updR (updR R 2 (.ref pq)) 3 (.ref mq)) Z B7 J K6 w pq dr ml nd nm cp it s9 q2 mq cs8 vr sz g rk pb Ag14 pd sl (u15 :: os) m9 sn lo hd c0 as10 (okA ∧ ¬ t13 = 63) (by omega) (BdE.wp hbe41 hwp) (BdE.pt hbe41 hwp hps) (BdE.rko hbe41 hrk) (by omega) (by omega) hng43 hf36 hf40 ⟨hv1.1, (by have z9 := hv1; omega)⟩ (EkA.be hbe41 (hbr49 7 (by decide)) (hbr49 11 (by decide)) hek) (OwC.be hbe41 hmq hdr0 hcO) (NaB.be hbe41 hbf48 hwp hps.2.1 hdr0 (hbr49 11 (by decide)) hna) (EnV.of (hbr49 26 (by decide)) (hbr49 27 (by decide)) hen) (fun z => (hev53 z).1) (by omega) (by show os.length + 1 + ndE g q2 ≤ 248; omega) hlf1 hO hl0) (gV pw_173 pw_174 pw_175 pw_63 pw_224) hV_X0_value qr149 0 hqr150 rfl rfl rfl (Nat.le_of_ble_eq_true rfl) dX0_sign_150 ⟨(by show 0 + 1 ≤ 1; omega), (by show 0 + 6 ≤ 6; omega)⟩ ⟨(by show (5 * (n - 1) + 34) + 1 ≤ (5 * n + 33); omega), (by show 8 + (3 + 11) + (200 * (n - 1) + 600) ≤ (200 * n + 560); omega)⟩ (fun v148 u146 H locs hw147 hP hD hS => ?_) (fun ux ce9 q9 H9 locs9 hux hP9 hD9 hS9 hce hcv hcl => pb_out ux (ThQ.up (Thx.same (Thx.same (Thx.same (Thx.same (Thx.same (Thx.f (Thx.f (Thx.f (Thx.f (Bth.thx hbb42) (by omega)) (by omega)) (by omega)) (by omega)) rfl) rfl) rfl) rfl) rfl) (show RhX (updR (updR R 2 (.ref pq)) 3 (.ref mq)) (updR (updR (updR (updR R 2 (.ref pq)) 3 (.ref mq)) 2 (.ref pq)) 3 (.ref mq)) from fun k9 hk9 => by unfold updR; simp only [show ¬ k9 = 1 by omega, show ¬ k9 = 2 by omega, show ¬ k9 = 3 by omega, show ¬ k9 = 4 by omega, if_false]) hux) hnt hlocks hce hcv hcl hP9 hD9 hS9 (by show 0 + 1 ≤ 1; omega) (by show 0 + 6 ≤ 6; omega))
        obtain ⟨w, K151, B152, cs153, as154, wt155, wf156, t157, Ag158, u159⟩ := u146
        obtain ⟨hw147, h160, h161, h162, h163, h164, h165, h166, h167, h168, h169, h170, h171, hO⟩ := hw147
        have h160 : SmW B7 B152 cs8 := h160
        have h161 : BdE K6 K151 := h161
        have h162 : BeF K6 K151 := h162
        have h163 : BeL K6 K151 none := h163
        have h164 : BeI K6 K151 g q2 := h164
        have h165 : Bth B7 B152 := h165
        have h166 : BeR B7 B152 := h166
        have h167 : t157 < 128 := h167
        have h168 : cs8 ≤ cs153 ∧ cs153 + 0 ≤ cs8 + 2 * tlE g q2 := h168
        have h169 : AsE as10 as154 ∧ AsE as10 wt155 ∧ AsE as10 wf156 := h169
        have h170 : (okA ∧ ¬ t13 = 63) → VaQ pb B7 B152 Ag14 Ag158 pd m9 sn lo cs8 cs153 as10 as154 wt155 wf156 hd sl (u15 :: os) t157 u159 (K6.2.1 0 q2) := h170
        have h171 : CaK (K6.2.1 0 q2) → cs153 + 2 ≤ cs8 + 2 * tlE g q2 := h171
        obtain rfl : v148 = some (.int (nI t157)) := hw147
        have hf172 : K151.1 pq = 7 := (BdE.T h161 hf28 (by decide))
        have hf173 : K151.2.2.1 18 pq = some (a 1) := (BdE.C h161 (by rw [hf28]; decide) 18).trans hf29
        have hf174 : K151.2.2.1 14 pq = some dr := (BdE.C h161 (by rw [hf28]; decide) 14).trans hf30
        have hf175 : K151.1 dr = 8 := (BdE.T h161 hf31 (by decide))
        have hf176 : K151.2.2.1 15 pq = some ml := (BdE.C h161 (by rw [hf28]; decide) 15).trans hf32
        have hf177 : K151.1 ml = 5 := (BdE.T h161 hf33 (by decide))
        have hf178 : K151.2.1 24 pq = (nI nd) := (BdE.I h161 (by rw [hf28]; decide) (by decide) (by decide)).trans hf34
        have hf179 : K151.1 q = 1 := (BdE.T h161 hf35 (by decide))
        have hf180 : K151.1 mq = 3 := (BdE.T h161 hf36 (by decide))
        have hf181 : K151.2.2.1 0 q = some q1 := (BdE.C h161 (by rw [hf35]; decide) 0).trans hf37
        have hf182 : K151.1 q1 = 1 := (BdE.T h161 hf38 (by decide))
        have hf183 : K151.2.2.1 1 q = some q2 := (BdE.C h161 (by rw [hf35]; decide) 1).trans hf39
        have hf184 : K151.1 q2 = 1 := (BdE.T h161 hf40 (by decide))
        have hO : OKP G h0 a (upd (upd (upd (upd (upd (upd (upd F 2 (nI sz)) 5 (nI cs153)) 7 (nI hd)) 12 (nI vr)) 13 as154) 14 wt155) 15 wf156) (updR (updR R 2 (.ref pq)) 3 (.ref mq)) Z B152 J K151 w := hO.to rfl
        refine W.widen (k := 0) (n := 0) (by show 0 + 0 ≤ 0; omega) (by show 0 + 0 ≤ 0; omega) ?_
        refine W.eq (g2 := F0 m 153 ls [.int (nI t157), .ref q2, .ref (a 4)]) rfl ?_
        have hbe185 := BdE.trans hbe41 h161
        have hbb186 : Bth B B152 := Bth.trans (show Thx (upd (upd (upd (upd (upd F 2 (nI sz)) 5 (nI cs)) 7 (nI hd)) 12 (nI vr)) 13 as9) (upd (upd (upd (upd (upd (upd (upd (upd (upd F 2 (nI sz)) 5 (nI cs)) 7 (nI hd)) 12 (nI vr)) 13 as9) 5 (nI cs8)) 13 as10) 14 wt11) 15 wf12) B B7 from (Thx.f (Thx.f (Thx.f (Thx.f (Bth.thx hbb42) (by omega)) (by omega)) (by omega)) (by omega))).2 h165
        have hng187 : Nng (B152 18) := h165.2 hng43
        have hsw188 : ∀ x9 : Nat, x9 < cs → (B152 16) x9 = B 16 x9 := fun x9 hx9 => ((h160 x9 (by omega)).1).trans (hsw44 x9 hx9)
        have hsw189 : ∀ x9 : Nat, x9 < cs → (B152 17) x9 = B 17 x9 := fun x9 hx9 => ((h160 x9 (by omega)).2.1).trans (hsw45 x9 hx9)
        have hsw190 : ∀ x9 : Nat, x9 < cs → (B152 18) x9 = B 18 x9 := fun x9 hx9 => ((h160 x9 (by omega)).2.2.1).trans (hsw46 x9 hx9)
        have hsw191 : ∀ x9 : Nat, x9 < cs → (B152 19) x9 = B 19 x9 := fun x9 hx9 => ((h160 x9 (by omega)).2.2.2).trans (hsw47 x9 hx9)
        have hbf192 := BeF.trans hbf48 h162 hbe41
        have hbl195 := BeL.trans hbl51 h163 hbe41
        have hbi196 := BeI.trans hbi52 h164 hbe41 hin1
        have hbr193 : BeR B B152 := BeR.trans hbr49 h166
        have hpt194 : ((okA ∧ ¬ t13 = 63) ∧ ¬ t157 = 63) → EvQ pb.1 pb.2.1 pb.2.2.1 pb.2.2.2 (B 16) (B 17) (B 18) (B 19) (B152 16) (B152 17) (B152 18) (B152 19) Ag Ag158 pd m9 sn lo cs cs153 as9 as154 hd sl (u159 :: (u15 :: os)) ∧ UTb u159 (nI t157) as154 wt155 wf156 := fun z => VaQ.part (B1 := B7) (hev53 z.1) (h170 z.1) h167 z.2
        have hev197 := fun z => (hpt194 z).1
        have has198 : AsE as9 as154 ∧ AsE as9 wt155 ∧ AsE as9 wf156 := ⟨AsE.trans has54.1 h169.1, AsE.trans has54.1 h169.2.1, AsE.trans has54.1 h169.2.2⟩
        refine lv_iload_n hx hb dX0_sign_153 rfl (lv_at hl 0 rfl) ?_
        have hO : OKP G h0 a (upd (upd (upd (upd (upd (upd (upd (upd (upd (upd F 2 (nI sz)) 5 (nI cs)) 7 (nI hd)) 12 (nI vr)) 13 as9) 5 (nI cs153)) 13 as154) 14 wt155) 15 wf156) 2 (nI sz)) (updR (updR (updR R 2 (.ref pq)) 3 (.ref mq)) 2 (.ref pq)) Z B152 J K151 w := hO.to rfl
        obtain ⟨_, qr202, hqr203⟩ := hO.2.1 24 _ (sg_24 G h0 a _ _ _ _ _)
        refine pn_V0 (G := G) (As := [.ref q2, .int (nI t157), .int (nI t13)]) (rest := []) hx hb hml hown hq hE hX pX0_al hP hD hS hA hl.1 (Y_fit l G h0 a (upd (upd (upd (upd (upd (upd (upd (upd (upd F 2 (nI sz)) 5 (nI cs)) 7 (nI hd)) 12 (nI vr)) 13 as9) 5 (nI cs153)) 13 as154) 14 wt155) 15 wf156) (updR (updR R 2 (.ref pq)) 3 (.ref mq)) Z B152 J K151 w pq dr ml nd q2 sz t157 t13 g pb (by omega) (BdE.pt hbe185 hwp hps).1 (BdE.pt hbe185 hwp hps).2.1 hf184 (by omega) hna.1.1 (NaB.be hbe185 hbf192 hwp hps.2.1 hdr0 (hbr193 11 (by decide)) hna).1.2.2 hO hl0) (gV pw_176 pw_177 pw_178 pw_63 pw_114) hV_X0_fit qr202 0 hqr203 rfl rfl rfl (Nat.le_of_ble_eq_true rfl) dX0_sign_154 ⟨(by show 0 + 1 ≤ 1; omega), (by show 0 + 6 ≤ 6; omega)⟩ ⟨(by show 7 + 1 ≤ (5 * n + 33); omega), (by show 8 + (4 + 11) + 122 ≤ (200 * n + 560); omega)⟩ (fun v201 u199 H locs hw200 hP hD hS => ?_) (fun ux ce9 q9 H9 locs9 hux hP9 hD9 hS9 hce hcv hcl => pb_out ux (ThQ.up (Thx.same (Thx.f (Thx.f (Thx.f (Thx.f (Bth.thx hbb186) (by omega)) (by omega)) (by omega)) (by omega)) rfl) (show RhX (updR (updR R 2 (.ref pq)) 3 (.ref mq)) (updR (updR (updR R 2 (.ref pq)) 3 (.ref mq)) 2 (.ref pq)) from fun k9 hk9 => by unfold updR; simp only [show ¬ k9 = 1 by omega, show ¬ k9 = 2 by omega, show ¬ k9 = 3 by omega, show ¬ k9 = 4 by omega, if_false]) hux) hnt hlocks hce hcv hcl hP9 hD9 hS9 (by show 0 + 1 ≤ 1; omega) (by show 0 + 6 ≤ 6; omega))
        obtain ⟨w, _⟩ := u199
        obtain ⟨hw200, h204, hO⟩ := hw200
        have h204 : FtQ pb t157 t13 := h204
        obtain rfl : v201 = none := hw200
        have hO : OKP G h0 a (upd (upd (upd (upd (upd (upd (upd F 2 (nI sz)) 5 (nI cs153)) 7 (nI hd)) 12 (nI vr)) 13 as154) 14 wt155) 15 wf156) (updR (updR R 2 (.ref pq)) 3 (.ref mq)) Z B152 J K151 w := hO.to rfl
        refine W.widen (k := 0) (n := 0) (by show 0 + 0 ≤ 0; omega) (by show 0 + 0 ≤ 0; omega) ?_
        refine W.eq (g2 := F0 m 157 ls []) rfl ?_
        refine lv_aload_n hx hb dX0_sign_157 rfl (lv_at hl 1 rfl) ?_
        refine lv_bipush (v := 10) hx hb dX0_sign_158 (by decide) ?_
        refine lv_iload_n hx hb dX0_sign_160 rfl (lv_at hl 3 rfl) ?_
        refine lv_iload_n hx hb dX0_sign_161 rfl (lv_at hl 0 rfl) ?_
        have hut205 := fun z : okA => (hpt50 ⟨z, (by omega)⟩).2
        have hut206 := fun z : okA => (hpt194 ⟨⟨z, (by omega)⟩, h204.1⟩).2
        have hev207 := fun z : okA => hev197 ⟨⟨z, (by omega)⟩, h204.1⟩
        have hfb := h204
        have he9 : t13 = 61 := by omega
        have hO : OKW G h0 a (upd (upd (upd (upd (upd (upd (upd (upd (upd F 2 (nI sz)) 5 (nI cs153)) 7 (nI hd)) 12 (nI vr)) 13 as154) 14 wt155) 15 wf156) 5 (nI cs153)) 7 (nI hd)) (updR (updR R 2 (.ref pq)) 3 (.ref mq)) Z B152 J K151.1 (fun q99 x99 => x99 = rep G a K151 q99) w := hO.to rfl
        obtain ⟨_, qr211, hqr212⟩ := hO.2.1 24 _ (sg_24 G h0 a _ _ _ _ _)
        refine pc_V0 (G := G) (As := [.int 10, .int 49, .int (nI t13)]) (rest := []) hx hb hml hown hq hE hX pX0_al hP hD hS hA hl.1 (Y_give l G h0 a (upd (upd (upd (upd (upd (upd (upd F 2 (nI sz)) 5 (nI cs153)) 7 (nI hd)) 12 (nI vr)) 13 as154) 14 wt155) 15 wf156) (updR (updR R 2 (.ref pq)) 3 (.ref mq)) Z B152 J K151.1 (fun q99 x99 => x99 = rep G a K151 q99) w 10 49 (nI t13) cs153 hd (by omega) hO) (gV pw_158 pw_159 pw_160 pw_63 pw_128) hV_X0_give qr211 0 hqr212 rfl rfl rfl (Nat.le_of_ble_eq_true rfl) dX0_sign_162 ⟨(by show 0 + 0 ≤ 1; omega), (by show 0 + 0 ≤ 6; omega)⟩ ⟨(by show 3 + 1 ≤ (5 * n + 33); omega), (by show 8 + (4 + 11) + 83 ≤ (200 * n + 560); omega)⟩ (fun v210 u208 H locs hw209 hP hD hS => ?_)
        obtain ⟨w, _⟩ := u208
        obtain ⟨hw209, hO⟩ := hw209
        obtain rfl : v210 = some (.int (nI t13)) := hw209
        have hO : OKP G h0 a (upd (upd (upd (upd (upd (upd (upd F 2 (nI sz)) 5 (nI (cs153 + 1))) 7 (nI hd)) 12 (nI vr)) 13 as154) 14 wt155) 15 wf156) (updR (updR R 2 (.ref pq)) 3 (.ref mq)) Z (updA (updA (updA (updA B152 16 (upd ((B152 16)) cs153 10)) 17 (upd ((B152 17)) cs153 49)) 18 (upd ((B152 18)) cs153 0)) 19 (upd ((B152 19)) cs153 (nI hd))) J K151 w := hO.to rfl
        refine W.widen (k := 0) (n := 0) (Nat.le_of_ble_eq_true rfl) (Nat.le_of_ble_eq_true rfl) ?_
        refine W.eq (g2 := F0 m 165 ls [.int (nI t13)]) rfl ?_
        have hsw213 : ∀ x9 : Nat, x9 < cs → (upd ((B152 16)) cs153 10) x9 = B 16 x9 := fun x9 hx9 => (if_neg (by omega)).trans (hsw188 x9 hx9)
        have hsw214 : ∀ x9 : Nat, x9 < cs → (upd ((B152 17)) cs153 49) x9 = B 17 x9 := fun x9 hx9 => (if_neg (by omega)).trans (hsw189 x9 hx9)
        have hsw215 : ∀ x9 : Nat, x9 < cs → (upd ((B152 18)) cs153 0) x9 = B 18 x9 := fun x9 hx9 => (if_neg (by omega)).trans (hsw190 x9 hx9)
        have hsw216 : ∀ x9 : Nat, x9 < cs → (upd ((B152 19)) cs153 (nI hd)) x9 = B 19 x9 := fun x9 hx9 => (if_neg (by omega)).trans (hsw191 x9 hx9)
        obtain ⟨Ag217, hev218⟩ : ∃ A5 : Nat → AS, okA → EvQ pb.1 pb.2.1 pb.2.2.1 pb.2.2.2 (B 16) (B 17) (B 18) (B 19) (upd ((B152 16)) cs153 10) (upd ((B152 17)) cs153 49) (upd ((B152 18)) cs153 0) (upd ((B152 19)) cs153 (nI hd)) Ag A5 pd m9 sn lo cs (cs153 + 1) as9 as154 hd sl (t13 :: os) := ⟨(upS Ag158 (cs153 + 1) (rcA as154, hd, sl, (t13 :: os))), fun z => (hev207 z).trans (EmS.sign (hev207 z).1 (by show os.length + 1 + 1 ≤ 248; omega) (u := t13) (by rw [he9]; exact SgT.bo (by decide) (UTb.bo9 (hut205 z) h23 he9) (UTb.bo9 (hut206 z) h167 (hfb.2.2.2.2.1 he9))))⟩
        have hng9 : Nng (upd ((B152 18)) cs153 0) := Nng.set hng187 (k := 0) (by omega)
        have hng219 := hng9
        refine W_size (fun hz1 hz2 => ?_)
        refine vx_ret ?_
        have hz220 : SmW B (updA (updA (updA (updA B152 16 (upd ((B152 16)) cs153 10)) 17 (upd ((B152 17)) cs153 49)) 18 (upd ((B152 18)) cs153 0)) 19 (upd ((B152 19)) cs153 (nI hd))) cs := (fun x9 hx9 => ⟨hsw213 x9 hx9, hsw214 x9 hx9, hsw215 x9 hx9, hsw216 x9 hx9⟩)
        have hz221 : BdE K K151 := hbe185
        have hz222 : BeF K K151 := hbf192
        have hz223 : BeL K K151 none := hbl195
        have hz224 : BeI K K151 g q := hbi196
        have hz225 : Bth B (updA (updA (updA (updA B152 16 (upd ((B152 16)) cs153 10)) 17 (upd ((B152 17)) cs153 49)) 18 (upd ((B152 18)) cs153 0)) 19 (upd ((B152 19)) cs153 (nI hd))) := (show Thx (upd (upd (upd (upd (upd F 2 (nI sz)) 5 (nI cs)) 7 (nI hd)) 12 (nI vr)) 13 as9) (upd (upd (upd (upd (upd (upd (upd (upd (upd F 2 (nI sz)) 5 (nI cs)) 7 (nI hd)) 12 (nI vr)) 13 as9) 5 (nI (cs153 + 1))) 13 as154) 14 wt155) 15 wf156) B (updA (updA (updA (updA B152 16 (upd ((B152 16)) cs153 10)) 17 (upd ((B152 17)) cs153 49)) 18 (upd ((B152 18)) cs153 0)) 19 (upd ((B152 19)) cs153 (nI hd))) from (Thx.b (Thx.b8 (Thx.b (Thx.b (Thx.f (Thx.f (Thx.f (Thx.f (Bth.thx hbb186) (by omega)) (by omega)) (by omega)) (by omega)) (by omega) (by decide)) (by omega) (by decide)) hng219) (by omega) (by decide))).2
        have hz226 : BeR B (updA (updA (updA (updA B152 16 (upd ((B152 16)) cs153 10)) 17 (upd ((B152 17)) cs153 49)) 18 (upd ((B152 18)) cs153 0)) 19 (upd ((B152 19)) cs153 (nI hd))) := (BeR.up (k := 19) (f := (upd ((B152 19)) cs153 (nI hd))) (BeR.up (k := 18) (f := (upd ((B152 18)) cs153 0)) (BeR.up (k := 17) (f := (upd ((B152 17)) cs153 49)) (BeR.up (k := 16) (f := (upd ((B152 16)) cs153 10)) hbr193 (by omega)) (by omega)) (by omega)) (by omega))
        have hz227 : t13 < 128 := (by omega)
        have hz228 : cs ≤ (cs153 + 1) ∧ (cs153 + 1) + 0 ≤ cs + 2 * tlE g q := (by omega)
        have hz229 : AsE as9 as154 := has198.1
        have hz230 : okA → PlQ pb B (updA (updA (updA (updA B152 16 (upd ((B152 16)) cs153 10)) 17 (upd ((B152 17)) cs153 49)) 18 (upd ((B152 18)) cs153 0)) 19 (upd ((B152 19)) cs153 (nI hd))) Ag Ag217 pd m9 sn lo cs (cs153 + 1) as9 as154 hd sl os t13 (K.2.1 0 q) := (fun z => Or.inr ⟨by rw [rsO_ne (by omega)]; exact hev218 z, by omega⟩)
        have hO : OKP G h0 a (upd (upd (upd (upd (upd (upd (upd F 2 (nI sz)) 5 (nI (cs153 + 1))) 7 (nI hd)) 12 (nI vr)) 13 as154) 14 wt155) 15 wf156) (updR (updR R 2 (.ref pq)) 3 (.ref mq)) Z (updA (updA (updA (updA B152 16 (upd ((B152 16)) cs153 10)) 17 (upd ((B152 17)) cs153 49)) 18 (upd ((B152 18)) cs153 0)) 19 (upd ((B152 19)) cs153 (nI hd))) J K151 w := hO.to rfl
        refine W.widen (k := 1) (n := 6) (by omega) (by omega) ?_
        have hzz1 : H.size ≤ s.heap.size + (0) := (by have z : 0 ≤ 0 := (by omega); omega)
        have hzz2 : hSl H ≤ hSl s.heap + (0) := (by have z : 0 ≤ 0 := (by omega); omega)
        exact W.iret (v := (nI t13)) hx hb hr (fun t99 ht99 hW99 => ⟨⟨_, (w, (K151, (updA (updA (updA (updA B152 16 (upd ((B152 16)) cs153 10)) 17 (upd ((B152 17)) cs153 49)) 18 (upd ((B152 18)) cs153 0)) 19 (upd ((B152 19)) cs153 (nI hd))), (cs153 + 1), as154, wt155, wf156, t13, Ag217)), rfl, ⟨rfl, hz220, hz221, hz222, hz223, hz224, hz225, hz226, hz227, hz228, hz229, hz230, hO⟩, by rw [ht99]; exact hP, hD, by rw [ht99]; exact hzz1, by rw [ht99]; exact hzz2⟩, hS.F ht99⟩) hS.2.2 dX0_sign_165
      · have n231 : ¬ (t13 = 61) := fun h9 => c144 ((nI_eq (a := t13) (b := 61) (by omega) (by omega)).mpr h9)
        refine lv_aload_n hx hb dX0_sign_124 rfl (lv_at hl 1 rfl) ?_
        refine c_get (v := .ref (a 1)) (C := RX0) (Tc := TX0) (N := 13) (ci := 0) hx hb hq pin_wsX00 hown hE hP hO 24 (sg_24 G h0 a _ _ _ _ _) rfl 0 (by decide) (hq _ pw_4) (fun _ h9 => h9) rfl dX0_sign_125 ?_
        refine lv_bipush (v := 11) hx hb dX0_sign_128 (by decide) ?_
        refine lv_aload_n hx hb dX0_sign_130 rfl (lv_at hl 2 rfl) ?_
        refine p_get (v := .ref q1) (C := RX7) (Tc := TX7) (N := 11) (ci := 13) hx hb hq pin_wsX70 hown hE hP hO (by rw [hf35]; decide) (rep_1 hf35) rfl 6 (by decide) (hq _ pw_180) (fun _ h9 => h9) (congrArg (fun z => some (va_rf z)) hf37) dX0_sign_131 ?_
        refine p_get (v := .int (K6.2.1 2 q1)) (C := RX7) (Tc := TX7) (N := 11) (ci := 13) hx hb hq pin_wsX70 hown hE hP hO (by rw [hf38]; decide) (rep_1 hf38) rfl 2 (by decide) (hq _ pw_82) (fun _ h9 => h9) rfl dX0_sign_134 ?_
        have hO : OKW G h0 a (upd (upd (upd (upd (upd (upd (upd (upd (upd (upd F 2 (nI sz)) 5 (nI cs)) 7 (nI hd)) 12 (nI vr)) 13 as9) 5 (nI cs8)) 13 as10) 14 wt11) 15 wf12) 2 (nI sz)) (updR (updR R 2 (.ref pq)) 3 (.ref mq)) Z B7 J K6.1 (fun q99 x99 => x99 = rep G a K6 q99) w := hO.to rfl
        obtain ⟨_, qr235, hqr236⟩ := hO.2.1 2 _ (sg_2 G h0 a _ _ _ _ _)
        refine pn_V0 (G := G) (As := [.int 11, .int (K6.2.1 2 q1)]) (rest := []) hx hb hml hown hq hE hX pX0_al hP hD hS hA hl.1 (K_fail l G h0 a (upd (upd (upd (upd (upd (upd (upd (upd (upd F 2 (nI sz)) 5 (nI cs)) 7 (nI hd)) 12 (nI vr)) 13 as9) 5 (nI cs8)) 13 as10) 14 wt11) 15 wf12) (updR (updR R 2 (.ref pq)) 3 (.ref mq)) Z B7 J K6.1 (fun q99 x99 => x99 = rep G a K6 q99) w 11 (K6.2.1 2 q1) sz (by omega) hO hl0) (gV pw_64 pw_65 pw_66 pw_59 pw_43) hV_X10_fail qr235 7 hqr236 rfl rfl rfl (Nat.le_of_ble_eq_true rfl) dX0_sign_137 ⟨(by show 0 + 1 ≤ 1; omega), (by show 0 + 6 ≤ 6; omega)⟩ ⟨(by show 6 + 1 ≤ (5 * n + 33); omega), (by show 8 + (3 + 11) + 100 ≤ (200 * n + 560); omega)⟩ (fun v234 u232 H locs hw233 hP hD hS => hw233.elim) (fun ux ce9 q9 H9 locs9 hux hP9 hD9 hS9 hce hcv hcl => pb_out ux (ThQ.up (Thx.same (Thx.f (Thx.f (Thx.f (Thx.f (Bth.thx hbb42) (by omega)) (by omega)) (by omega)) (by omega)) rfl) RhX.rfl hux) hnt hlocks hce hcv hcl hP9 hD9 hS9 (by show 0 + 1 ≤ 1; omega) (by show 0 + 6 ≤ 6; omega))
  by_cases h237 : x = 50
  · subst h237
    refine lv_tableIn (tgt := 112) (off := 102) hx hb dX0_sign_10 (by decide) (by decide) (by decide) (by decide) ?_
    refine lv_iload_n hx hb dX0_sign_112 rfl (lv_at hl 0 rfl) ?_
    refine lv_bipush (v := 60) hx hb dX0_sign_113 (by decide) ?_
    refine lv_icmp_eq (tgt := 140) hx hb dX0_sign_115 (by decide) (fun c238 => ?_) (fun c238 => ?_)
    · have n239 : t13 = 60 := (nI_eq (a := t13) (b := 60) (by omega) (by omega)).mp c238
      refine lv_aload_n hx hb dX0_sign_140 rfl (lv_at hl 1 rfl) ?_
      refine lv_aload_n hx hb dX0_sign_141 rfl (lv_at hl 2 rfl) ?_
      refine p_get (v := .ref q2) (C := RX7) (Tc := TX7) (N := 11) (ci := 13) hx hb hq pin_wsX70 hown hE hP hO (by rw [hf35]; decide) (rep_1 hf35) rfl 7 (by decide) (hq _ pw_169) (fun _ h9 => h9) (congrArg (fun z => some (va_rf z)) hf39) dX0_sign_142 ?_
      refine lv_aload_n hx hb dX0_sign_145 rfl (lv_at hl 1 rfl) ?_
      refine lv_aload_n hx hb dX0_sign_146 rfl (lv_at hl 2 rfl) ?_
      refine p_get (v := .ref q2) (C := RX7) (Tc := TX7) (N := 11) (ci := 13) hx hb hq pin_wsX70 hown hE hP hO (by rw [hf35]; decide) (rep_1 hf35) rfl 7 (by decide) (hq _ pw_169) (fun _ h9 => h9) (congrArg (fun z => some (va_rf z)) hf39) dX0_sign_147 ?_
      have hO : OKP G h0 a (upd (upd (upd (upd (upd (upd (upd (upd (upd (upd (upd (upd (upd (upd F 2 (nI sz)) 5 (nI cs)) 7 (nI hd)) 12 (nI vr)) 13 as9) 5 (nI cs8)) 13 as10) 14 wt11) 15 wf12) 2 (nI sz)) 5 (nI cs8)) 7 (nI hd)) 12 (nI vr)) 13 as10) (updR (updR (updR (updR R 2 (.ref pq)) 3 (.ref mq)) 2 (.ref pq)) 3 (.ref mq)) Z B7 J K6 w := hO.to rfl
      obtain ⟨_, qr243, hqr244⟩ := hO.2.1 24 _ (sg_24 G h0 a _ _ _ _ _)
      refine pn_V0 (G := G) (As := [.ref q2]) (rest := [.ref q2, .ref (a 4)]) hx hb hml hown hq hE hX pX0_al hP hD hS hA hl.1 ((ihv (by omega)) h0 a (upd (upd (upd (upd (upd (upd (upd (upd (upd F 2 (nI sz)) 5 (nI cs)) 7 (nI hd)) 12 (nI vr)) 13 as9) 5 (nI cs8)) 13 as10) 14 wt11) 15 wf12) (updR (updR R 2 (.ref pq)) 3 (.ref mq)) Z B7 J K6 w pq dr ml nd nm cp it s9 q2 mq cs8 vr sz g rk pb Ag14 pd sl (u15 :: os) m9 sn lo hd c0 as10 (okA ∧ ¬ t13 = 63) (by omega) (BdE.wp hbe41 hwp) (BdE.pt hbe41 hwp hps) (BdE.rko hbe41 hrk) (by omega) (by omega) hng43 hf36 hf40 ⟨hv1.1, (by have z9 := hv1; omega)⟩ (EkA.be hbe41 (hbr49 7 (by decide)) (hbr49 11 (by decide)) hek) (OwC.be hbe41 hmq hdr0 hcO) (NaB.be hbe41 hbf48 hwp hps.2.1 hdr0 (hbr49 11 (by decide)) hna) (EnV.of (hbr49 26 (by decide)) (hbr49 27 (by decide)) hen) (fun z => (hev53 z).1) (by omega) (by show os.length + 1 + ndE g q2 ≤ 248; omega) hlf1 hO hl0) (gV pw_173 pw_174 pw_175 pw_63 pw_224) hV_X0_value qr243 0 hqr244 rfl rfl rfl (Nat.le_of_ble_eq_true rfl) dX0_sign_150 ⟨(by show 0 + 1 ≤ 1; omega), (by show 0 + 6 ≤ 6; omega)⟩ ⟨(by show (5 * (n - 1) + 34) + 1 ≤ (5 * n + 33); omega), (by show 8 + (3 + 11) + (200 * (n - 1) + 600) ≤ (200 * n + 560); omega)⟩ (fun v242 u240 H locs hw241 hP hD hS => ?_) (fun ux ce9 q9 H9 locs9 hux hP9 hD9 hS9 hce hcv hcl => pb_out ux (ThQ.up (Thx.same (Thx.same (Thx.same (Thx.same (Thx.same (Thx.f (Thx.f (Thx.f (Thx.f (Bth.thx hbb42) (by omega)) (by omega)) (by omega)) (by omega)) rfl) rfl) rfl) rfl) rfl) (show RhX (updR (updR R 2 (.ref pq)) 3 (.ref mq)) (updR (updR (updR (updR R 2 (.ref pq)) 3 (.ref mq)) 2 (.ref pq)) 3 (.ref mq)) from fun k9 hk9 => by unfold updR; simp only [show ¬ k9 = 1 by omega, show ¬ k9 = 2 by omega, show ¬ k9 = 3 by omega, show ¬ k9 = 4 by omega, if_false]) hux) hnt hlocks hce hcv hcl hP9 hD9 hS9 (by show 0 + 1 ≤ 1; omega) (by show 0 + 6 ≤ 6; omega))
      obtain ⟨w, K245, B246, cs247, as248, wt249, wf250, t251, Ag252, u253⟩ := u240
      obtain ⟨hw241, h254, h255, h256, h257, h258, h259, h260, h261, h262, h263, h264, h265, hO⟩ := hw241
      have h254 : SmW B7 B246 cs8 := h254
      have h255 : BdE K6 K245 := h255
      have h256 : BeF K6 K245 := h256
      have h257 : BeL K6 K245 none := h257
      have h258 : BeI K6 K245 g q2 := h258
      have h259 : Bth B7 B246 := h259
      have h260 : BeR B7 B246 := h260
      have h261 : t251 < 128 := h261
      have h262 : cs8 ≤ cs247 ∧ cs247 + 0 ≤ cs8 + 2 * tlE g q2 := h262
      have h263 : AsE as10 as248 ∧ AsE as10 wt249 ∧ AsE as10 wf250 := h263
      have h264 : (okA ∧ ¬ t13 = 63) → VaQ pb B7 B246 Ag14 Ag252 pd m9 sn lo cs8 cs247 as10 as248 wt249 wf250 hd sl (u15 :: os) t251 u253 (K6.2.1 0 q2) := h264
      have h265 : CaK (K6.2.1 0 q2) → cs247 + 2 ≤ cs8 + 2 * tlE g q2 := h265
      obtain rfl : v242 = some (.int (nI t251)) := hw241
      have hf266 : K245.1 pq = 7 := (BdE.T h255 hf28 (by decide))
      have hf267 : K245.2.2.1 18 pq = some (a 1) := (BdE.C h255 (by rw [hf28]; decide) 18).trans hf29
      have hf268 : K245.2.2.1 14 pq = some dr := (BdE.C h255 (by rw [hf28]; decide) 14).trans hf30
      have hf269 : K245.1 dr = 8 := (BdE.T h255 hf31 (by decide))
      have hf270 : K245.2.2.1 15 pq = some ml := (BdE.C h255 (by rw [hf28]; decide) 15).trans hf32
      have hf271 : K245.1 ml = 5 := (BdE.T h255 hf33 (by decide))
      have hf272 : K245.2.1 24 pq = (nI nd) := (BdE.I h255 (by rw [hf28]; decide) (by decide) (by decide)).trans hf34
      have hf273 : K245.1 q = 1 := (BdE.T h255 hf35 (by decide))
      have hf274 : K245.1 mq = 3 := (BdE.T h255 hf36 (by decide))
      have hf275 : K245.2.2.1 0 q = some q1 := (BdE.C h255 (by rw [hf35]; decide) 0).trans hf37
      have hf276 : K245.1 q1 = 1 := (BdE.T h255 hf38 (by decide))
      have hf277 : K245.2.2.1 1 q = some q2 := (BdE.C h255 (by rw [hf35]; decide) 1).trans hf39
      have hf278 : K245.1 q2 = 1 := (BdE.T h255 hf40 (by decide))
      have hO : OKP G h0 a (upd (upd (upd (upd (upd (upd (upd F 2 (nI sz)) 5 (nI cs247)) 7 (nI hd)) 12 (nI vr)) 13 as248) 14 wt249) 15 wf250) (updR (updR R 2 (.ref pq)) 3 (.ref mq)) Z B246 J K245 w := hO.to rfl
      refine W.widen (k := 0) (n := 0) (by show 0 + 0 ≤ 0; omega) (by show 0 + 0 ≤ 0; omega) ?_
      refine W.eq (g2 := F0 m 153 ls [.int (nI t251), .ref q2, .ref (a 4)]) rfl ?_
      have hbe279 := BdE.trans hbe41 h255
      have hbb280 : Bth B B246 := Bth.trans (show Thx (upd (upd (upd (upd (upd F 2 (nI sz)) 5 (nI cs)) 7 (nI hd)) 12 (nI vr)) 13 as9) (upd (upd (upd (upd (upd (upd (upd (upd (upd F 2 (nI sz)) 5 (nI cs)) 7 (nI hd)) 12 (nI vr)) 13 as9) 5 (nI cs8)) 13 as10) 14 wt11) 15 wf12) B B7 from (Thx.f (Thx.f (Thx.f (Thx.f (Bth.thx hbb42) (by omega)) (by omega)) (by omega)) (by omega))).2 h259
      have hng281 : Nng (B246 18) := h259.2 hng43
      have hsw282 : ∀ x9 : Nat, x9 < cs → (B246 16) x9 = B 16 x9 := fun x9 hx9 => ((h254 x9 (by omega)).1).trans (hsw44 x9 hx9)
      have hsw283 : ∀ x9 : Nat, x9 < cs → (B246 17) x9 = B 17 x9 := fun x9 hx9 => ((h254 x9 (by omega)).2.1).trans (hsw45 x9 hx9)
      have hsw284 : ∀ x9 : Nat, x9 < cs → (B246 18) x9 = B 18 x9 := fun x9 hx9 => ((h254 x9 (by omega)).2.2.1).trans (hsw46 x9 hx9)
      have hsw285 : ∀ x9 : Nat, x9 < cs → (B246 19) x9 = B 19 x9 := fun x9 hx9 => ((h254 x9 (by omega)).2.2.2).trans (hsw47 x9 hx9)
      have hbf286 := BeF.trans hbf48 h256 hbe41
      have hbl289 := BeL.trans hbl51 h257 hbe41
      have hbi290 := BeI.trans hbi52 h258 hbe41 hin1
      have hbr287 : BeR B B246 := BeR.trans hbr49 h260
      have hpt288 : ((okA ∧ ¬ t13 = 63) ∧ ¬ t251 = 63) → EvQ pb.1 pb.2.1 pb.2.2.1 pb.2.2.2 (B 16) (B 17) (B 18) (B 19) (B246 16) (B246 17) (B246 18) (B246 19) Ag Ag252 pd m9 sn lo cs cs247 as9 as248 hd sl (u253 :: (u15 :: os)) ∧ UTb u253 (nI t251) as248 wt249 wf250 := fun z => VaQ.part (B1 := B7) (hev53 z.1) (h264 z.1) h261 z.2
      have hev291 := fun z => (hpt288 z).1
      have has292 : AsE as9 as248 ∧ AsE as9 wt249 ∧ AsE as9 wf250 := ⟨AsE.trans has54.1 h263.1, AsE.trans has54.1 h263.2.1, AsE.trans has54.1 h263.2.2⟩
      refine lv_iload_n hx hb dX0_sign_153 rfl (lv_at hl 0 rfl) ?_
      have hO : OKP G h0 a (upd (upd (upd (upd (upd (upd (upd (upd (upd (upd F 2 (nI sz)) 5 (nI cs)) 7 (nI hd)) 12 (nI vr)) 13 as9) 5 (nI cs247)) 13 as248) 14 wt249) 15 wf250) 2 (nI sz)) (updR (updR (updR R 2 (.ref pq)) 3 (.ref mq)) 2 (.ref pq)) Z B246 J K245 w := hO.to rfl
      obtain ⟨_, qr296, hqr297⟩ := hO.2.1 24 _ (sg_24 G h0 a _ _ _ _ _)
      refine pn_V0 (G := G) (As := [.ref q2, .int (nI t251), .int (nI t13)]) (rest := []) hx hb hml hown hq hE hX pX0_al hP hD hS hA hl.1 (Y_fit l G h0 a (upd (upd (upd (upd (upd (upd (upd (upd (upd F 2 (nI sz)) 5 (nI cs)) 7 (nI hd)) 12 (nI vr)) 13 as9) 5 (nI cs247)) 13 as248) 14 wt249) 15 wf250) (updR (updR R 2 (.ref pq)) 3 (.ref mq)) Z B246 J K245 w pq dr ml nd q2 sz t251 t13 g pb (by omega) (BdE.pt hbe279 hwp hps).1 (BdE.pt hbe279 hwp hps).2.1 hf278 (by omega) hna.1.1 (NaB.be hbe279 hbf286 hwp hps.2.1 hdr0 (hbr287 11 (by decide)) hna).1.2.2 hO hl0) (gV pw_176 pw_177 pw_178 pw_63 pw_114) hV_X0_fit qr296 0 hqr297 rfl rfl rfl (Nat.le_of_ble_eq_true rfl) dX0_sign_154 ⟨(by show 0 + 1 ≤ 1; omega), (by show 0 + 6 ≤ 6; omega)⟩ ⟨(by show 7 + 1 ≤ (5 * n + 33); omega), (by show 8 + (4 + 11) + 122 ≤ (200 * n + 560); omega)⟩ (fun v295 u293 H locs hw294 hP hD hS => ?_) (fun ux ce9 q9 H9 locs9 hux hP9 hD9 hS9 hce hcv hcl => pb_out ux (ThQ.up (Thx.same (Thx.f (Thx.f (Thx.f (Thx.f (Bth.thx hbb280) (by omega)) (by omega)) (by omega)) (by omega)) rfl) (show RhX (updR (updR R 2 (.ref pq)) 3 (.ref mq)) (updR (updR (updR R 2 (.ref pq)) 3 (.ref mq)) 2 (.ref pq)) from fun k9 hk9 => by unfold updR; simp only [show ¬ k9 = 1 by omega, show ¬ k9 = 2 by omega, show ¬ k9 = 3 by omega, show ¬ k9 = 4 by omega, if_false]) hux) hnt hlocks hce hcv hcl hP9 hD9 hS9 (by show 0 + 1 ≤ 1; omega) (by show 0 + 6 ≤ 6; omega))
      obtain ⟨w, _⟩ := u293
      obtain ⟨hw294, h298, hO⟩ := hw294
      have h298 : FtQ pb t251 t13 := h298
      obtain rfl : v295 = none := hw294
      have hO : OKP G h0 a (upd (upd (upd (upd (upd (upd (upd F 2 (nI sz)) 5 (nI cs247)) 7 (nI hd)) 12 (nI vr)) 13 as248) 14 wt249) 15 wf250) (updR (updR R 2 (.ref pq)) 3 (.ref mq)) Z B246 J K245 w := hO.to rfl
      refine W.widen (k := 0) (n := 0) (by show 0 + 0 ≤ 0; omega) (by show 0 + 0 ≤ 0; omega) ?_
      refine W.eq (g2 := F0 m 157 ls []) rfl ?_
      refine lv_aload_n hx hb dX0_sign_157 rfl (lv_at hl 1 rfl) ?_
      refine lv_bipush (v := 10) hx hb dX0_sign_158 (by decide) ?_
      refine lv_iload_n hx hb dX0_sign_160 rfl (lv_at hl 3 rfl) ?_
      refine lv_iload_n hx hb dX0_sign_161 rfl (lv_at hl 0 rfl) ?_
      have hut299 := fun z : okA => (hpt50 ⟨z, (by omega)⟩).2
      have hut300 := fun z : okA => (hpt288 ⟨⟨z, (by omega)⟩, h298.1⟩).2
      have hev301 := fun z : okA => hev291 ⟨⟨z, (by omega)⟩, h298.1⟩
      have hfb := h298
      have he9 : t13 = 60 := by omega
      have hO : OKW G h0 a (upd (upd (upd (upd (upd (upd (upd (upd (upd F 2 (nI sz)) 5 (nI cs247)) 7 (nI hd)) 12 (nI vr)) 13 as248) 14 wt249) 15 wf250) 5 (nI cs247)) 7 (nI hd)) (updR (updR R 2 (.ref pq)) 3 (.ref mq)) Z B246 J K245.1 (fun q99 x99 => x99 = rep G a K245 q99) w := hO.to rfl
      obtain ⟨_, qr305, hqr306⟩ := hO.2.1 24 _ (sg_24 G h0 a _ _ _ _ _)
      refine pc_V0 (G := G) (As := [.int 10, .int 50, .int (nI t13)]) (rest := []) hx hb hml hown hq hE hX pX0_al hP hD hS hA hl.1 (Y_give l G h0 a (upd (upd (upd (upd (upd (upd (upd F 2 (nI sz)) 5 (nI cs247)) 7 (nI hd)) 12 (nI vr)) 13 as248) 14 wt249) 15 wf250) (updR (updR R 2 (.ref pq)) 3 (.ref mq)) Z B246 J K245.1 (fun q99 x99 => x99 = rep G a K245 q99) w 10 50 (nI t13) cs247 hd (by omega) hO) (gV pw_158 pw_159 pw_160 pw_63 pw_128) hV_X0_give qr305 0 hqr306 rfl rfl rfl (Nat.le_of_ble_eq_true rfl) dX0_sign_162 ⟨(by show 0 + 0 ≤ 1; omega), (by show 0 + 0 ≤ 6; omega)⟩ ⟨(by show 3 + 1 ≤ (5 * n + 33); omega), (by show 8 + (4 + 11) + 83 ≤ (200 * n + 560); omega)⟩ (fun v304 u302 H locs hw303 hP hD hS => ?_)
      obtain ⟨w, _⟩ := u302
      obtain ⟨hw303, hO⟩ := hw303
      obtain rfl : v304 = some (.int (nI t13)) := hw303
      have hO : OKP G h0 a (upd (upd (upd (upd (upd (upd (upd F 2 (nI sz)) 5 (nI (cs247 + 1))) 7 (nI hd)) 12 (nI vr)) 13 as248) 14 wt249) 15 wf250) (updR (updR R 2 (.ref pq)) 3 (.ref mq)) Z (updA (updA (updA (updA B246 16 (upd ((B246 16)) cs247 10)) 17 (upd ((B246 17)) cs247 50)) 18 (upd ((B246 18)) cs247 0)) 19 (upd ((B246 19)) cs247 (nI hd))) J K245 w := hO.to rfl
      refine W.widen (k := 0) (n := 0) (Nat.le_of_ble_eq_true rfl) (Nat.le_of_ble_eq_true rfl) ?_
      refine W.eq (g2 := F0 m 165 ls [.int (nI t13)]) rfl ?_
      have hsw307 : ∀ x9 : Nat, x9 < cs → (upd ((B246 16)) cs247 10) x9 = B 16 x9 := fun x9 hx9 => (if_neg (by omega)).trans (hsw282 x9 hx9)
      have hsw308 : ∀ x9 : Nat, x9 < cs → (upd ((B246 17)) cs247 50) x9 = B 17 x9 := fun x9 hx9 => (if_neg (by omega)).trans (hsw283 x9 hx9)
      have hsw309 : ∀ x9 : Nat, x9 < cs → (upd ((B246 18)) cs247 0) x9 = B 18 x9 := fun x9 hx9 => (if_neg (by omega)).trans (hsw284 x9 hx9)
      have hsw310 : ∀ x9 : Nat, x9 < cs → (upd ((B246 19)) cs247 (nI hd)) x9 = B 19 x9 := fun x9 hx9 => (if_neg (by omega)).trans (hsw285 x9 hx9)
      obtain ⟨Ag311, hev312⟩ : ∃ A5 : Nat → AS, okA → EvQ pb.1 pb.2.1 pb.2.2.1 pb.2.2.2 (B 16) (B 17) (B 18) (B 19) (upd ((B246 16)) cs247 10) (upd ((B246 17)) cs247 50) (upd ((B246 18)) cs247 0) (upd ((B246 19)) cs247 (nI hd)) Ag A5 pd m9 sn lo cs (cs247 + 1) as9 as248 hd sl (t13 :: os) := ⟨(upS Ag252 (cs247 + 1) (rcA as248, hd, sl, (t13 :: os))), fun z => (hev301 z).trans (EmS.sign (hev301 z).1 (by show os.length + 1 + 1 ≤ 248; omega) (u := t13) (by rw [he9]; exact SgT.bit (by decide)))⟩
      have hng9 : Nng (upd ((B246 18)) cs247 0) := Nng.set hng281 (k := 0) (by omega)
      have hng313 := hng9
      refine W_size (fun hz1 hz2 => ?_)
      refine vx_ret ?_
      have hz314 : SmW B (updA (updA (updA (updA B246 16 (upd ((B246 16)) cs247 10)) 17 (upd ((B246 17)) cs247 50)) 18 (upd ((B246 18)) cs247 0)) 19 (upd ((B246 19)) cs247 (nI hd))) cs := (fun x9 hx9 => ⟨hsw307 x9 hx9, hsw308 x9 hx9, hsw309 x9 hx9, hsw310 x9 hx9⟩)
      have hz315 : BdE K K245 := hbe279
      have hz316 : BeF K K245 := hbf286
      have hz317 : BeL K K245 none := hbl289
      have hz318 : BeI K K245 g q := hbi290
      have hz319 : Bth B (updA (updA (updA (updA B246 16 (upd ((B246 16)) cs247 10)) 17 (upd ((B246 17)) cs247 50)) 18 (upd ((B246 18)) cs247 0)) 19 (upd ((B246 19)) cs247 (nI hd))) := (show Thx (upd (upd (upd (upd (upd F 2 (nI sz)) 5 (nI cs)) 7 (nI hd)) 12 (nI vr)) 13 as9) (upd (upd (upd (upd (upd (upd (upd (upd (upd F 2 (nI sz)) 5 (nI cs)) 7 (nI hd)) 12 (nI vr)) 13 as9) 5 (nI (cs247 + 1))) 13 as248) 14 wt249) 15 wf250) B (updA (updA (updA (updA B246 16 (upd ((B246 16)) cs247 10)) 17 (upd ((B246 17)) cs247 50)) 18 (upd ((B246 18)) cs247 0)) 19 (upd ((B246 19)) cs247 (nI hd))) from (Thx.b (Thx.b8 (Thx.b (Thx.b (Thx.f (Thx.f (Thx.f (Thx.f (Bth.thx hbb280) (by omega)) (by omega)) (by omega)) (by omega)) (by omega) (by decide)) (by omega) (by decide)) hng313) (by omega) (by decide))).2
      have hz320 : BeR B (updA (updA (updA (updA B246 16 (upd ((B246 16)) cs247 10)) 17 (upd ((B246 17)) cs247 50)) 18 (upd ((B246 18)) cs247 0)) 19 (upd ((B246 19)) cs247 (nI hd))) := (BeR.up (k := 19) (f := (upd ((B246 19)) cs247 (nI hd))) (BeR.up (k := 18) (f := (upd ((B246 18)) cs247 0)) (BeR.up (k := 17) (f := (upd ((B246 17)) cs247 50)) (BeR.up (k := 16) (f := (upd ((B246 16)) cs247 10)) hbr287 (by omega)) (by omega)) (by omega)) (by omega))
      have hz321 : t13 < 128 := (by omega)
      have hz322 : cs ≤ (cs247 + 1) ∧ (cs247 + 1) + 0 ≤ cs + 2 * tlE g q := (by omega)
      have hz323 : AsE as9 as248 := has292.1
      have hz324 : okA → PlQ pb B (updA (updA (updA (updA B246 16 (upd ((B246 16)) cs247 10)) 17 (upd ((B246 17)) cs247 50)) 18 (upd ((B246 18)) cs247 0)) 19 (upd ((B246 19)) cs247 (nI hd))) Ag Ag311 pd m9 sn lo cs (cs247 + 1) as9 as248 hd sl os t13 (K.2.1 0 q) := (fun z => Or.inr ⟨by rw [rsO_ne (by omega)]; exact hev312 z, by omega⟩)
      have hO : OKP G h0 a (upd (upd (upd (upd (upd (upd (upd F 2 (nI sz)) 5 (nI (cs247 + 1))) 7 (nI hd)) 12 (nI vr)) 13 as248) 14 wt249) 15 wf250) (updR (updR R 2 (.ref pq)) 3 (.ref mq)) Z (updA (updA (updA (updA B246 16 (upd ((B246 16)) cs247 10)) 17 (upd ((B246 17)) cs247 50)) 18 (upd ((B246 18)) cs247 0)) 19 (upd ((B246 19)) cs247 (nI hd))) J K245 w := hO.to rfl
      refine W.widen (k := 1) (n := 6) (by omega) (by omega) ?_
      have hzz1 : H.size ≤ s.heap.size + (0) := (by have z : 0 ≤ 0 := (by omega); omega)
      have hzz2 : hSl H ≤ hSl s.heap + (0) := (by have z : 0 ≤ 0 := (by omega); omega)
      exact W.iret (v := (nI t13)) hx hb hr (fun t99 ht99 hW99 => ⟨⟨_, (w, (K245, (updA (updA (updA (updA B246 16 (upd ((B246 16)) cs247 10)) 17 (upd ((B246 17)) cs247 50)) 18 (upd ((B246 18)) cs247 0)) 19 (upd ((B246 19)) cs247 (nI hd))), (cs247 + 1), as248, wt249, wf250, t13, Ag311)), rfl, ⟨rfl, hz314, hz315, hz316, hz317, hz318, hz319, hz320, hz321, hz322, hz323, hz324, hO⟩, by rw [ht99]; exact hP, hD, by rw [ht99]; exact hzz1, by rw [ht99]; exact hzz2⟩, hS.F ht99⟩) hS.2.2 dX0_sign_165
    · have n325 : ¬ (t13 = 60) := fun h9 => c238 ((nI_eq (a := t13) (b := 60) (by omega) (by omega)).mpr h9)
      refine lv_iload_n hx hb dX0_sign_118 rfl (lv_at hl 0 rfl) ?_
      refine lv_bipush (v := 61) hx hb dX0_sign_119 (by decide) ?_
      refine lv_icmp_eq (tgt := 140) hx hb dX0_sign_121 (by decide) (fun c326 => ?_) (fun c326 => ?_)
      · have n327 : t13 = 61 := (nI_eq (a := t13) (b := 61) (by omega) (by omega)).mp c326
        refine lv_aload_n hx hb dX0_sign_140 rfl (lv_at hl 1 rfl) ?_
        refine lv_aload_n hx hb dX0_sign_141 rfl (lv_at hl 2 rfl) ?_
        refine p_get (v := .ref q2) (C := RX7) (Tc := TX7) (N := 11) (ci := 13) hx hb hq pin_wsX70 hown hE hP hO (by rw [hf35]; decide) (rep_1 hf35) rfl 7 (by decide) (hq _ pw_169) (fun _ h9 => h9) (congrArg (fun z => some (va_rf z)) hf39) dX0_sign_142 ?_
        refine lv_aload_n hx hb dX0_sign_145 rfl (lv_at hl 1 rfl) ?_
        refine lv_aload_n hx hb dX0_sign_146 rfl (lv_at hl 2 rfl) ?_
        refine p_get (v := .ref q2) (C := RX7) (Tc := TX7) (N := 11) (ci := 13) hx hb hq pin_wsX70 hown hE hP hO (by rw [hf35]; decide) (rep_1 hf35) rfl 7 (by decide) (hq _ pw_169) (fun _ h9 => h9) (congrArg (fun z => some (va_rf z)) hf39) dX0_sign_147 ?_
        have hO : OKP G h0 a (upd (upd (upd (upd (upd (upd (upd (upd (upd (upd (upd (upd (upd (upd F 2 (nI sz)) 5 (nI cs)) 7 (nI hd)) 12 (nI vr)) 13 as9) 5 (nI cs8)) 13 as10) 14 wt11) 15 wf12) 2 (nI sz)) 5 (nI cs8)) 7 (nI hd)) 12 (nI vr)) 13 as10) (updR (updR (updR (updR R 2 (.ref pq)) 3 (.ref mq)) 2 (.ref pq)) 3 (.ref mq)) Z B7 J K6 w := hO.to rfl
        obtain ⟨_, qr331, hqr332⟩ := hO.2.1 24 _ (sg_24 G h0 a _ _ _ _ _)
        refine pn_V0 (G := G) (As := [.ref q2]) (rest := [.ref q2, .ref (a 4)]) hx hb hml hown hq hE hX pX0_al hP hD hS hA hl.1 ((ihv (by omega)) h0 a (upd (upd (upd (upd (upd (upd (upd (upd (upd F 2 (nI sz)) 5 (nI cs)) 7 (nI hd)) 12 (nI vr)) 13 as9) 5 (nI cs8)) 13 as10) 14 wt11) 15 wf12) (updR (updR R 2 (.ref pq)) 3 (.ref mq)) Z B7 J K6 w pq dr ml nd nm cp it s9 q2 mq cs8 vr sz g rk pb Ag14 pd sl (u15 :: os) m9 sn lo hd c0 as10 (okA ∧ ¬ t13 = 63) (by omega) (BdE.wp hbe41 hwp) (BdE.pt hbe41 hwp hps) (BdE.rko hbe41 hrk) (by omega) (by omega) hng43 hf36 hf40 ⟨hv1.1, (by have z9 := hv1; omega)⟩ (EkA.be hbe41 (hbr49 7 (by decide)) (hbr49 11 (by decide)) hek) (OwC.be hbe41 hmq hdr0 hcO) (NaB.be hbe41 hbf48 hwp hps.2.1 hdr0 (hbr49 11 (by decide)) hna) (EnV.of (hbr49 26 (by decide)) (hbr49 27 (by decide)) hen) (fun z => (hev53 z).1) (by omega) (by show os.length + 1 + ndE g q2 ≤ 248; omega) hlf1 hO hl0) (gV pw_173 pw_174 pw_175 pw_63 pw_224) hV_X0_value qr331 0 hqr332 rfl rfl rfl (Nat.le_of_ble_eq_true rfl) dX0_sign_150 ⟨(by show 0 + 1 ≤ 1; omega), (by show 0 + 6 ≤ 6; omega)⟩ ⟨(by show (5 * (n - 1) + 34) + 1 ≤ (5 * n + 33); omega), (by show 8 + (3 + 11) + (200 * (n - 1) + 600) ≤ (200 * n + 560); omega)⟩ (fun v330 u328 H locs hw329 hP hD hS => ?_) (fun ux ce9 q9 H9 locs9 hux hP9 hD9 hS9 hce hcv hcl => pb_out ux (ThQ.up (Thx.same (Thx.same (Thx.same (Thx.same (Thx.same (Thx.f (Thx.f (Thx.f (Thx.f (Bth.thx hbb42) (by omega)) (by omega)) (by omega)) (by omega)) rfl) rfl) rfl) rfl) rfl) (show RhX (updR (updR R 2 (.ref pq)) 3 (.ref mq)) (updR (updR (updR (updR R 2 (.ref pq)) 3 (.ref mq)) 2 (.ref pq)) 3 (.ref mq)) from fun k9 hk9 => by unfold updR; simp only [show ¬ k9 = 1 by omega, show ¬ k9 = 2 by omega, show ¬ k9 = 3 by omega, show ¬ k9 = 4 by omega, if_false]) hux) hnt hlocks hce hcv hcl hP9 hD9 hS9 (by show 0 + 1 ≤ 1; omega) (by show 0 + 6 ≤ 6; omega))
        obtain ⟨w, K333, B334, cs335, as336, wt337, wf338, t339, Ag340, u341⟩ := u328
        obtain ⟨hw329, h342, h343, h344, h345, h346, h347, h348, h349, h350, h351, h352, h353, hO⟩ := hw329
        have h342 : SmW B7 B334 cs8 := h342
        have h343 : BdE K6 K333 := h343
        have h344 : BeF K6 K333 := h344
        have h345 : BeL K6 K333 none := h345
        have h346 : BeI K6 K333 g q2 := h346
        have h347 : Bth B7 B334 := h347
        have h348 : BeR B7 B334 := h348
        have h349 : t339 < 128 := h349
        have h350 : cs8 ≤ cs335 ∧ cs335 + 0 ≤ cs8 + 2 * tlE g q2 := h350
        have h351 : AsE as10 as336 ∧ AsE as10 wt337 ∧ AsE as10 wf338 := h351
        have h352 : (okA ∧ ¬ t13 = 63) → VaQ pb B7 B334 Ag14 Ag340 pd m9 sn lo cs8 cs335 as10 as336 wt337 wf338 hd sl (u15 :: os) t339 u341 (K6.2.1 0 q2) := h352
        have h353 : CaK (K6.2.1 0 q2) → cs335 + 2 ≤ cs8 + 2 * tlE g q2 := h353
        obtain rfl : v330 = some (.int (nI t339)) := hw329
        have hf354 : K333.1 pq = 7 := (BdE.T h343 hf28 (by decide))
        have hf355 : K333.2.2.1 18 pq = some (a 1) := (BdE.C h343 (by rw [hf28]; decide) 18).trans hf29
        have hf356 : K333.2.2.1 14 pq = some dr := (BdE.C h343 (by rw [hf28]; decide) 14).trans hf30
        have hf357 : K333.1 dr = 8 := (BdE.T h343 hf31 (by decide))
        have hf358 : K333.2.2.1 15 pq = some ml := (BdE.C h343 (by rw [hf28]; decide) 15).trans hf32
        have hf359 : K333.1 ml = 5 := (BdE.T h343 hf33 (by decide))
        have hf360 : K333.2.1 24 pq = (nI nd) := (BdE.I h343 (by rw [hf28]; decide) (by decide) (by decide)).trans hf34
        have hf361 : K333.1 q = 1 := (BdE.T h343 hf35 (by decide))
        have hf362 : K333.1 mq = 3 := (BdE.T h343 hf36 (by decide))
        have hf363 : K333.2.2.1 0 q = some q1 := (BdE.C h343 (by rw [hf35]; decide) 0).trans hf37
        have hf364 : K333.1 q1 = 1 := (BdE.T h343 hf38 (by decide))
        have hf365 : K333.2.2.1 1 q = some q2 := (BdE.C h343 (by rw [hf35]; decide) 1).trans hf39
        have hf366 : K333.1 q2 = 1 := (BdE.T h343 hf40 (by decide))
        have hO : OKP G h0 a (upd (upd (upd (upd (upd (upd (upd F 2 (nI sz)) 5 (nI cs335)) 7 (nI hd)) 12 (nI vr)) 13 as336) 14 wt337) 15 wf338) (updR (updR R 2 (.ref pq)) 3 (.ref mq)) Z B334 J K333 w := hO.to rfl
        refine W.widen (k := 0) (n := 0) (by show 0 + 0 ≤ 0; omega) (by show 0 + 0 ≤ 0; omega) ?_
        refine W.eq (g2 := F0 m 153 ls [.int (nI t339), .ref q2, .ref (a 4)]) rfl ?_
        have hbe367 := BdE.trans hbe41 h343
        have hbb368 : Bth B B334 := Bth.trans (show Thx (upd (upd (upd (upd (upd F 2 (nI sz)) 5 (nI cs)) 7 (nI hd)) 12 (nI vr)) 13 as9) (upd (upd (upd (upd (upd (upd (upd (upd (upd F 2 (nI sz)) 5 (nI cs)) 7 (nI hd)) 12 (nI vr)) 13 as9) 5 (nI cs8)) 13 as10) 14 wt11) 15 wf12) B B7 from (Thx.f (Thx.f (Thx.f (Thx.f (Bth.thx hbb42) (by omega)) (by omega)) (by omega)) (by omega))).2 h347
        have hng369 : Nng (B334 18) := h347.2 hng43
        have hsw370 : ∀ x9 : Nat, x9 < cs → (B334 16) x9 = B 16 x9 := fun x9 hx9 => ((h342 x9 (by omega)).1).trans (hsw44 x9 hx9)
        have hsw371 : ∀ x9 : Nat, x9 < cs → (B334 17) x9 = B 17 x9 := fun x9 hx9 => ((h342 x9 (by omega)).2.1).trans (hsw45 x9 hx9)
        have hsw372 : ∀ x9 : Nat, x9 < cs → (B334 18) x9 = B 18 x9 := fun x9 hx9 => ((h342 x9 (by omega)).2.2.1).trans (hsw46 x9 hx9)
        have hsw373 : ∀ x9 : Nat, x9 < cs → (B334 19) x9 = B 19 x9 := fun x9 hx9 => ((h342 x9 (by omega)).2.2.2).trans (hsw47 x9 hx9)
        have hbf374 := BeF.trans hbf48 h344 hbe41
        have hbl377 := BeL.trans hbl51 h345 hbe41
        have hbi378 := BeI.trans hbi52 h346 hbe41 hin1
        have hbr375 : BeR B B334 := BeR.trans hbr49 h348
        have hpt376 : ((okA ∧ ¬ t13 = 63) ∧ ¬ t339 = 63) → EvQ pb.1 pb.2.1 pb.2.2.1 pb.2.2.2 (B 16) (B 17) (B 18) (B 19) (B334 16) (B334 17) (B334 18) (B334 19) Ag Ag340 pd m9 sn lo cs cs335 as9 as336 hd sl (u341 :: (u15 :: os)) ∧ UTb u341 (nI t339) as336 wt337 wf338 := fun z => VaQ.part (B1 := B7) (hev53 z.1) (h352 z.1) h349 z.2
        have hev379 := fun z => (hpt376 z).1
        have has380 : AsE as9 as336 ∧ AsE as9 wt337 ∧ AsE as9 wf338 := ⟨AsE.trans has54.1 h351.1, AsE.trans has54.1 h351.2.1, AsE.trans has54.1 h351.2.2⟩
        refine lv_iload_n hx hb dX0_sign_153 rfl (lv_at hl 0 rfl) ?_
        have hO : OKP G h0 a (upd (upd (upd (upd (upd (upd (upd (upd (upd (upd F 2 (nI sz)) 5 (nI cs)) 7 (nI hd)) 12 (nI vr)) 13 as9) 5 (nI cs335)) 13 as336) 14 wt337) 15 wf338) 2 (nI sz)) (updR (updR (updR R 2 (.ref pq)) 3 (.ref mq)) 2 (.ref pq)) Z B334 J K333 w := hO.to rfl
        obtain ⟨_, qr384, hqr385⟩ := hO.2.1 24 _ (sg_24 G h0 a _ _ _ _ _)
        refine pn_V0 (G := G) (As := [.ref q2, .int (nI t339), .int (nI t13)]) (rest := []) hx hb hml hown hq hE hX pX0_al hP hD hS hA hl.1 (Y_fit l G h0 a (upd (upd (upd (upd (upd (upd (upd (upd (upd F 2 (nI sz)) 5 (nI cs)) 7 (nI hd)) 12 (nI vr)) 13 as9) 5 (nI cs335)) 13 as336) 14 wt337) 15 wf338) (updR (updR R 2 (.ref pq)) 3 (.ref mq)) Z B334 J K333 w pq dr ml nd q2 sz t339 t13 g pb (by omega) (BdE.pt hbe367 hwp hps).1 (BdE.pt hbe367 hwp hps).2.1 hf366 (by omega) hna.1.1 (NaB.be hbe367 hbf374 hwp hps.2.1 hdr0 (hbr375 11 (by decide)) hna).1.2.2 hO hl0) (gV pw_176 pw_177 pw_178 pw_63 pw_114) hV_X0_fit qr384 0 hqr385 rfl rfl rfl (Nat.le_of_ble_eq_true rfl) dX0_sign_154 ⟨(by show 0 + 1 ≤ 1; omega), (by show 0 + 6 ≤ 6; omega)⟩ ⟨(by show 7 + 1 ≤ (5 * n + 33); omega), (by show 8 + (4 + 11) + 122 ≤ (200 * n + 560); omega)⟩ (fun v383 u381 H locs hw382 hP hD hS => ?_) (fun ux ce9 q9 H9 locs9 hux hP9 hD9 hS9 hce hcv hcl => pb_out ux (ThQ.up (Thx.same (Thx.f (Thx.f (Thx.f (Thx.f (Bth.thx hbb368) (by omega)) (by omega)) (by omega)) (by omega)) rfl) (show RhX (updR (updR R 2 (.ref pq)) 3 (.ref mq)) (updR (updR (updR R 2 (.ref pq)) 3 (.ref mq)) 2 (.ref pq)) from fun k9 hk9 => by unfold updR; simp only [show ¬ k9 = 1 by omega, show ¬ k9 = 2 by omega, show ¬ k9 = 3 by omega, show ¬ k9 = 4 by omega, if_false]) hux) hnt hlocks hce hcv hcl hP9 hD9 hS9 (by show 0 + 1 ≤ 1; omega) (by show 0 + 6 ≤ 6; omega))
        obtain ⟨w, _⟩ := u381
        obtain ⟨hw382, h386, hO⟩ := hw382
        have h386 : FtQ pb t339 t13 := h386
        obtain rfl : v383 = none := hw382
        have hO : OKP G h0 a (upd (upd (upd (upd (upd (upd (upd F 2 (nI sz)) 5 (nI cs335)) 7 (nI hd)) 12 (nI vr)) 13 as336) 14 wt337) 15 wf338) (updR (updR R 2 (.ref pq)) 3 (.ref mq)) Z B334 J K333 w := hO.to rfl
        refine W.widen (k := 0) (n := 0) (by show 0 + 0 ≤ 0; omega) (by show 0 + 0 ≤ 0; omega) ?_
        refine W.eq (g2 := F0 m 157 ls []) rfl ?_
        refine lv_aload_n hx hb dX0_sign_157 rfl (lv_at hl 1 rfl) ?_
        refine lv_bipush (v := 10) hx hb dX0_sign_158 (by decide) ?_
        refine lv_iload_n hx hb dX0_sign_160 rfl (lv_at hl 3 rfl) ?_
        refine lv_iload_n hx hb dX0_sign_161 rfl (lv_at hl 0 rfl) ?_
        have hut387 := fun z : okA => (hpt50 ⟨z, (by omega)⟩).2
        have hut388 := fun z : okA => (hpt376 ⟨⟨z, (by omega)⟩, h386.1⟩).2
        have hev389 := fun z : okA => hev379 ⟨⟨z, (by omega)⟩, h386.1⟩
        have hfb := h386
        have he9 : t13 = 61 := by omega
        have hO : OKW G h0 a (upd (upd (upd (upd (upd (upd (upd (upd (upd F 2 (nI sz)) 5 (nI cs335)) 7 (nI hd)) 12 (nI vr)) 13 as336) 14 wt337) 15 wf338) 5 (nI cs335)) 7 (nI hd)) (updR (updR R 2 (.ref pq)) 3 (.ref mq)) Z B334 J K333.1 (fun q99 x99 => x99 = rep G a K333 q99) w := hO.to rfl
        obtain ⟨_, qr393, hqr394⟩ := hO.2.1 24 _ (sg_24 G h0 a _ _ _ _ _)
        refine pc_V0 (G := G) (As := [.int 10, .int 50, .int (nI t13)]) (rest := []) hx hb hml hown hq hE hX pX0_al hP hD hS hA hl.1 (Y_give l G h0 a (upd (upd (upd (upd (upd (upd (upd F 2 (nI sz)) 5 (nI cs335)) 7 (nI hd)) 12 (nI vr)) 13 as336) 14 wt337) 15 wf338) (updR (updR R 2 (.ref pq)) 3 (.ref mq)) Z B334 J K333.1 (fun q99 x99 => x99 = rep G a K333 q99) w 10 50 (nI t13) cs335 hd (by omega) hO) (gV pw_158 pw_159 pw_160 pw_63 pw_128) hV_X0_give qr393 0 hqr394 rfl rfl rfl (Nat.le_of_ble_eq_true rfl) dX0_sign_162 ⟨(by show 0 + 0 ≤ 1; omega), (by show 0 + 0 ≤ 6; omega)⟩ ⟨(by show 3 + 1 ≤ (5 * n + 33); omega), (by show 8 + (4 + 11) + 83 ≤ (200 * n + 560); omega)⟩ (fun v392 u390 H locs hw391 hP hD hS => ?_)
        obtain ⟨w, _⟩ := u390
        obtain ⟨hw391, hO⟩ := hw391
        obtain rfl : v392 = some (.int (nI t13)) := hw391
        have hO : OKP G h0 a (upd (upd (upd (upd (upd (upd (upd F 2 (nI sz)) 5 (nI (cs335 + 1))) 7 (nI hd)) 12 (nI vr)) 13 as336) 14 wt337) 15 wf338) (updR (updR R 2 (.ref pq)) 3 (.ref mq)) Z (updA (updA (updA (updA B334 16 (upd ((B334 16)) cs335 10)) 17 (upd ((B334 17)) cs335 50)) 18 (upd ((B334 18)) cs335 0)) 19 (upd ((B334 19)) cs335 (nI hd))) J K333 w := hO.to rfl
        refine W.widen (k := 0) (n := 0) (Nat.le_of_ble_eq_true rfl) (Nat.le_of_ble_eq_true rfl) ?_
        refine W.eq (g2 := F0 m 165 ls [.int (nI t13)]) rfl ?_
        have hsw395 : ∀ x9 : Nat, x9 < cs → (upd ((B334 16)) cs335 10) x9 = B 16 x9 := fun x9 hx9 => (if_neg (by omega)).trans (hsw370 x9 hx9)
        have hsw396 : ∀ x9 : Nat, x9 < cs → (upd ((B334 17)) cs335 50) x9 = B 17 x9 := fun x9 hx9 => (if_neg (by omega)).trans (hsw371 x9 hx9)
        have hsw397 : ∀ x9 : Nat, x9 < cs → (upd ((B334 18)) cs335 0) x9 = B 18 x9 := fun x9 hx9 => (if_neg (by omega)).trans (hsw372 x9 hx9)
        have hsw398 : ∀ x9 : Nat, x9 < cs → (upd ((B334 19)) cs335 (nI hd)) x9 = B 19 x9 := fun x9 hx9 => (if_neg (by omega)).trans (hsw373 x9 hx9)
        obtain ⟨Ag399, hev400⟩ : ∃ A5 : Nat → AS, okA → EvQ pb.1 pb.2.1 pb.2.2.1 pb.2.2.2 (B 16) (B 17) (B 18) (B 19) (upd ((B334 16)) cs335 10) (upd ((B334 17)) cs335 50) (upd ((B334 18)) cs335 0) (upd ((B334 19)) cs335 (nI hd)) Ag A5 pd m9 sn lo cs (cs335 + 1) as9 as336 hd sl (t13 :: os) := ⟨(upS Ag340 (cs335 + 1) (rcA as336, hd, sl, (t13 :: os))), fun z => (hev389 z).trans (EmS.sign (hev389 z).1 (by show os.length + 1 + 1 ≤ 248; omega) (u := t13) (by rw [he9]; exact SgT.bo (by decide) (UTb.bo9 (hut387 z) h23 he9) (UTb.bo9 (hut388 z) h349 (hfb.2.2.2.2.1 he9))))⟩
        have hng9 : Nng (upd ((B334 18)) cs335 0) := Nng.set hng369 (k := 0) (by omega)
        have hng401 := hng9
        refine W_size (fun hz1 hz2 => ?_)
        refine vx_ret ?_
        have hz402 : SmW B (updA (updA (updA (updA B334 16 (upd ((B334 16)) cs335 10)) 17 (upd ((B334 17)) cs335 50)) 18 (upd ((B334 18)) cs335 0)) 19 (upd ((B334 19)) cs335 (nI hd))) cs := (fun x9 hx9 => ⟨hsw395 x9 hx9, hsw396 x9 hx9, hsw397 x9 hx9, hsw398 x9 hx9⟩)
        have hz403 : BdE K K333 := hbe367
        have hz404 : BeF K K333 := hbf374
        have hz405 : BeL K K333 none := hbl377
        have hz406 : BeI K K333 g q := hbi378
        have hz407 : Bth B (updA (updA (updA (updA B334 16 (upd ((B334 16)) cs335 10)) 17 (upd ((B334 17)) cs335 50)) 18 (upd ((B334 18)) cs335 0)) 19 (upd ((B334 19)) cs335 (nI hd))) := (show Thx (upd (upd (upd (upd (upd F 2 (nI sz)) 5 (nI cs)) 7 (nI hd)) 12 (nI vr)) 13 as9) (upd (upd (upd (upd (upd (upd (upd (upd (upd F 2 (nI sz)) 5 (nI cs)) 7 (nI hd)) 12 (nI vr)) 13 as9) 5 (nI (cs335 + 1))) 13 as336) 14 wt337) 15 wf338) B (updA (updA (updA (updA B334 16 (upd ((B334 16)) cs335 10)) 17 (upd ((B334 17)) cs335 50)) 18 (upd ((B334 18)) cs335 0)) 19 (upd ((B334 19)) cs335 (nI hd))) from (Thx.b (Thx.b8 (Thx.b (Thx.b (Thx.f (Thx.f (Thx.f (Thx.f (Bth.thx hbb368) (by omega)) (by omega)) (by omega)) (by omega)) (by omega) (by decide)) (by omega) (by decide)) hng401) (by omega) (by decide))).2
        have hz408 : BeR B (updA (updA (updA (updA B334 16 (upd ((B334 16)) cs335 10)) 17 (upd ((B334 17)) cs335 50)) 18 (upd ((B334 18)) cs335 0)) 19 (upd ((B334 19)) cs335 (nI hd))) := (BeR.up (k := 19) (f := (upd ((B334 19)) cs335 (nI hd))) (BeR.up (k := 18) (f := (upd ((B334 18)) cs335 0)) (BeR.up (k := 17) (f := (upd ((B334 17)) cs335 50)) (BeR.up (k := 16) (f := (upd ((B334 16)) cs335 10)) hbr375 (by omega)) (by omega)) (by omega)) (by omega))
        have hz409 : t13 < 128 := (by omega)
        have hz410 : cs ≤ (cs335 + 1) ∧ (cs335 + 1) + 0 ≤ cs + 2 * tlE g q := (by omega)
        have hz411 : AsE as9 as336 := has380.1
        have hz412 : okA → PlQ pb B (updA (updA (updA (updA B334 16 (upd ((B334 16)) cs335 10)) 17 (upd ((B334 17)) cs335 50)) 18 (upd ((B334 18)) cs335 0)) 19 (upd ((B334 19)) cs335 (nI hd))) Ag Ag399 pd m9 sn lo cs (cs335 + 1) as9 as336 hd sl os t13 (K.2.1 0 q) := (fun z => Or.inr ⟨by rw [rsO_ne (by omega)]; exact hev400 z, by omega⟩)
        have hO : OKP G h0 a (upd (upd (upd (upd (upd (upd (upd F 2 (nI sz)) 5 (nI (cs335 + 1))) 7 (nI hd)) 12 (nI vr)) 13 as336) 14 wt337) 15 wf338) (updR (updR R 2 (.ref pq)) 3 (.ref mq)) Z (updA (updA (updA (updA B334 16 (upd ((B334 16)) cs335 10)) 17 (upd ((B334 17)) cs335 50)) 18 (upd ((B334 18)) cs335 0)) 19 (upd ((B334 19)) cs335 (nI hd))) J K333 w := hO.to rfl
        refine W.widen (k := 1) (n := 6) (by omega) (by omega) ?_
        have hzz1 : H.size ≤ s.heap.size + (0) := (by have z : 0 ≤ 0 := (by omega); omega)
        have hzz2 : hSl H ≤ hSl s.heap + (0) := (by have z : 0 ≤ 0 := (by omega); omega)
        exact W.iret (v := (nI t13)) hx hb hr (fun t99 ht99 hW99 => ⟨⟨_, (w, (K333, (updA (updA (updA (updA B334 16 (upd ((B334 16)) cs335 10)) 17 (upd ((B334 17)) cs335 50)) 18 (upd ((B334 18)) cs335 0)) 19 (upd ((B334 19)) cs335 (nI hd))), (cs335 + 1), as336, wt337, wf338, t13, Ag399)), rfl, ⟨rfl, hz402, hz403, hz404, hz405, hz406, hz407, hz408, hz409, hz410, hz411, hz412, hO⟩, by rw [ht99]; exact hP, hD, by rw [ht99]; exact hzz1, by rw [ht99]; exact hzz2⟩, hS.F ht99⟩) hS.2.2 dX0_sign_165
      · have n413 : ¬ (t13 = 61) := fun h9 => c326 ((nI_eq (a := t13) (b := 61) (by omega) (by omega)).mpr h9)
        refine lv_aload_n hx hb dX0_sign_124 rfl (lv_at hl 1 rfl) ?_
        refine c_get (v := .ref (a 1)) (C := RX0) (Tc := TX0) (N := 13) (ci := 0) hx hb hq pin_wsX00 hown hE hP hO 24 (sg_24 G h0 a _ _ _ _ _) rfl 0 (by decide) (hq _ pw_4) (fun _ h9 => h9) rfl dX0_sign_125 ?_
        refine lv_bipush (v := 11) hx hb dX0_sign_128 (by decide) ?_
        refine lv_aload_n hx hb dX0_sign_130 rfl (lv_at hl 2 rfl) ?_
        refine p_get (v := .ref q1) (C := RX7) (Tc := TX7) (N := 11) (ci := 13) hx hb hq pin_wsX70 hown hE hP hO (by rw [hf35]; decide) (rep_1 hf35) rfl 6 (by decide) (hq _ pw_180) (fun _ h9 => h9) (congrArg (fun z => some (va_rf z)) hf37) dX0_sign_131 ?_
        refine p_get (v := .int (K6.2.1 2 q1)) (C := RX7) (Tc := TX7) (N := 11) (ci := 13) hx hb hq pin_wsX70 hown hE hP hO (by rw [hf38]; decide) (rep_1 hf38) rfl 2 (by decide) (hq _ pw_82) (fun _ h9 => h9) rfl dX0_sign_134 ?_
        have hO : OKW G h0 a (upd (upd (upd (upd (upd (upd (upd (upd (upd (upd F 2 (nI sz)) 5 (nI cs)) 7 (nI hd)) 12 (nI vr)) 13 as9) 5 (nI cs8)) 13 as10) 14 wt11) 15 wf12) 2 (nI sz)) (updR (updR R 2 (.ref pq)) 3 (.ref mq)) Z B7 J K6.1 (fun q99 x99 => x99 = rep G a K6 q99) w := hO.to rfl
        obtain ⟨_, qr417, hqr418⟩ := hO.2.1 2 _ (sg_2 G h0 a _ _ _ _ _)
        refine pn_V0 (G := G) (As := [.int 11, .int (K6.2.1 2 q1)]) (rest := []) hx hb hml hown hq hE hX pX0_al hP hD hS hA hl.1 (K_fail l G h0 a (upd (upd (upd (upd (upd (upd (upd (upd (upd F 2 (nI sz)) 5 (nI cs)) 7 (nI hd)) 12 (nI vr)) 13 as9) 5 (nI cs8)) 13 as10) 14 wt11) 15 wf12) (updR (updR R 2 (.ref pq)) 3 (.ref mq)) Z B7 J K6.1 (fun q99 x99 => x99 = rep G a K6 q99) w 11 (K6.2.1 2 q1) sz (by omega) hO hl0) (gV pw_64 pw_65 pw_66 pw_59 pw_43) hV_X10_fail qr417 7 hqr418 rfl rfl rfl (Nat.le_of_ble_eq_true rfl) dX0_sign_137 ⟨(by show 0 + 1 ≤ 1; omega), (by show 0 + 6 ≤ 6; omega)⟩ ⟨(by show 6 + 1 ≤ (5 * n + 33); omega), (by show 8 + (3 + 11) + 100 ≤ (200 * n + 560); omega)⟩ (fun v416 u414 H locs hw415 hP hD hS => hw415.elim) (fun ux ce9 q9 H9 locs9 hux hP9 hD9 hS9 hce hcv hcl => pb_out ux (ThQ.up (Thx.same (Thx.f (Thx.f (Thx.f (Thx.f (Bth.thx hbb42) (by omega)) (by omega)) (by omega)) (by omega)) rfl) RhX.rfl hux) hnt hlocks hce hcv hcl hP9 hD9 hS9 (by show 0 + 1 ≤ 1; omega) (by show 0 + 6 ≤ 6; omega))
  by_cases h419 : x = 51
  · subst h419
    refine lv_tableIn (tgt := 112) (off := 102) hx hb dX0_sign_10 (by decide) (by decide) (by decide) (by decide) ?_
    refine lv_iload_n hx hb dX0_sign_112 rfl (lv_at hl 0 rfl) ?_
    refine lv_bipush (v := 60) hx hb dX0_sign_113 (by decide) ?_
    refine lv_icmp_eq (tgt := 140) hx hb dX0_sign_115 (by decide) (fun c420 => ?_) (fun c420 => ?_)
    · have n421 : t13 = 60 := (nI_eq (a := t13) (b := 60) (by omega) (by omega)).mp c420
      refine lv_aload_n hx hb dX0_sign_140 rfl (lv_at hl 1 rfl) ?_
      refine lv_aload_n hx hb dX0_sign_141 rfl (lv_at hl 2 rfl) ?_
      refine p_get (v := .ref q2) (C := RX7) (Tc := TX7) (N := 11) (ci := 13) hx hb hq pin_wsX70 hown hE hP hO (by rw [hf35]; decide) (rep_1 hf35) rfl 7 (by decide) (hq _ pw_169) (fun _ h9 => h9) (congrArg (fun z => some (va_rf z)) hf39) dX0_sign_142 ?_
      refine lv_aload_n hx hb dX0_sign_145 rfl (lv_at hl 1 rfl) ?_
      refine lv_aload_n hx hb dX0_sign_146 rfl (lv_at hl 2 rfl) ?_
      refine p_get (v := .ref q2) (C := RX7) (Tc := TX7) (N := 11) (ci := 13) hx hb hq pin_wsX70 hown hE hP hO (by rw [hf35]; decide) (rep_1 hf35) rfl 7 (by decide) (hq _ pw_169) (fun _ h9 => h9) (congrArg (fun z => some (va_rf z)) hf39) dX0_sign_147 ?_
      have hO : OKP G h0 a (upd (upd (upd (upd (upd (upd (upd (upd (upd (upd (upd (upd (upd (upd F 2 (nI sz)) 5 (nI cs)) 7 (nI hd)) 12 (nI vr)) 13 as9) 5 (nI cs8)) 13 as10) 14 wt11) 15 wf12) 2 (nI sz)) 5 (nI cs8)) 7 (nI hd)) 12 (nI vr)) 13 as10) (updR (updR (updR (updR R 2 (.ref pq)) 3 (.ref mq)) 2 (.ref pq)) 3 (.ref mq)) Z B7 J K6 w := hO.to rfl
      obtain ⟨_, qr425, hqr426⟩ := hO.2.1 24 _ (sg_24 G h0 a _ _ _ _ _)
      refine pn_V0 (G := G) (As := [.ref q2]) (rest := [.ref q2, .ref (a 4)]) hx hb hml hown hq hE hX pX0_al hP hD hS hA hl.1 ((ihv (by omega)) h0 a (upd (upd (upd (upd (upd (upd (upd (upd (upd F 2 (nI sz)) 5 (nI cs)) 7 (nI hd)) 12 (nI vr)) 13 as9) 5 (nI cs8)) 13 as10) 14 wt11) 15 wf12) (updR (updR R 2 (.ref pq)) 3 (.ref mq)) Z B7 J K6 w pq dr ml nd nm cp it s9 q2 mq cs8 vr sz g rk pb Ag14 pd sl (u15 :: os) m9 sn lo hd c0 as10 (okA ∧ ¬ t13 = 63) (by omega) (BdE.wp hbe41 hwp) (BdE.pt hbe41 hwp hps) (BdE.rko hbe41 hrk) (by omega) (by omega) hng43 hf36 hf40 ⟨hv1.1, (by have z9 := hv1; omega)⟩ (EkA.be hbe41 (hbr49 7 (by decide)) (hbr49 11 (by decide)) hek) (OwC.be hbe41 hmq hdr0 hcO) (NaB.be hbe41 hbf48 hwp hps.2.1 hdr0 (hbr49 11 (by decide)) hna) (EnV.of (hbr49 26 (by decide)) (hbr49 27 (by decide)) hen) (fun z => (hev53 z).1) (by omega) (by show os.length + 1 + ndE g q2 ≤ 248; omega) hlf1 hO hl0) (gV pw_173 pw_174 pw_175 pw_63 pw_224) hV_X0_value qr425 0 hqr426 rfl rfl rfl (Nat.le_of_ble_eq_true rfl) dX0_sign_150 ⟨(by show 0 + 1 ≤ 1; omega), (by show 0 + 6 ≤ 6; omega)⟩ ⟨(by show (5 * (n - 1) + 34) + 1 ≤ (5 * n + 33); omega), (by show 8 + (3 + 11) + (200 * (n - 1) + 600) ≤ (200 * n + 560); omega)⟩ (fun v424 u422 H locs hw423 hP hD hS => ?_) (fun ux ce9 q9 H9 locs9 hux hP9 hD9 hS9 hce hcv hcl => pb_out ux (ThQ.up (Thx.same (Thx.same (Thx.same (Thx.same (Thx.same (Thx.f (Thx.f (Thx.f (Thx.f (Bth.thx hbb42) (by omega)) (by omega)) (by omega)) (by omega)) rfl) rfl) rfl) rfl) rfl) (show RhX (updR (updR R 2 (.ref pq)) 3 (.ref mq)) (updR (updR (updR (updR R 2 (.ref pq)) 3 (.ref mq)) 2 (.ref pq)) 3 (.ref mq)) from fun k9 hk9 => by unfold updR; simp only [show ¬ k9 = 1 by omega, show ¬ k9 = 2 by omega, show ¬ k9 = 3 by omega, show ¬ k9 = 4 by omega, if_false]) hux) hnt hlocks hce hcv hcl hP9 hD9 hS9 (by show 0 + 1 ≤ 1; omega) (by show 0 + 6 ≤ 6; omega))
      obtain ⟨w, K427, B428, cs429, as430, wt431, wf432, t433, Ag434, u435⟩ := u422
      obtain ⟨hw423, h436, h437, h438, h439, h440, h441, h442, h443, h444, h445, h446, h447, hO⟩ := hw423
      have h436 : SmW B7 B428 cs8 := h436
      have h437 : BdE K6 K427 := h437
      have h438 : BeF K6 K427 := h438
      have h439 : BeL K6 K427 none := h439
      have h440 : BeI K6 K427 g q2 := h440
      have h441 : Bth B7 B428 := h441
      have h442 : BeR B7 B428 := h442
      have h443 : t433 < 128 := h443
      have h444 : cs8 ≤ cs429 ∧ cs429 + 0 ≤ cs8 + 2 * tlE g q2 := h444
      have h445 : AsE as10 as430 ∧ AsE as10 wt431 ∧ AsE as10 wf432 := h445
      have h446 : (okA ∧ ¬ t13 = 63) → VaQ pb B7 B428 Ag14 Ag434 pd m9 sn lo cs8 cs429 as10 as430 wt431 wf432 hd sl (u15 :: os) t433 u435 (K6.2.1 0 q2) := h446
      have h447 : CaK (K6.2.1 0 q2) → cs429 + 2 ≤ cs8 + 2 * tlE g q2 := h447
      obtain rfl : v424 = some (.int (nI t433)) := hw423
      have hf448 : K427.1 pq = 7 := (BdE.T h437 hf28 (by decide))
      have hf449 : K427.2.2.1 18 pq = some (a 1) := (BdE.C h437 (by rw [hf28]; decide) 18).trans hf29
      have hf450 : K427.2.2.1 14 pq = some dr := (BdE.C h437 (by rw [hf28]; decide) 14).trans hf30
      have hf451 : K427.1 dr = 8 := (BdE.T h437 hf31 (by decide))
      have hf452 : K427.2.2.1 15 pq = some ml := (BdE.C h437 (by rw [hf28]; decide) 15).trans hf32
      have hf453 : K427.1 ml = 5 := (BdE.T h437 hf33 (by decide))
      have hf454 : K427.2.1 24 pq = (nI nd) := (BdE.I h437 (by rw [hf28]; decide) (by decide) (by decide)).trans hf34
      have hf455 : K427.1 q = 1 := (BdE.T h437 hf35 (by decide))
      have hf456 : K427.1 mq = 3 := (BdE.T h437 hf36 (by decide))
      have hf457 : K427.2.2.1 0 q = some q1 := (BdE.C h437 (by rw [hf35]; decide) 0).trans hf37
      have hf458 : K427.1 q1 = 1 := (BdE.T h437 hf38 (by decide))
      have hf459 : K427.2.2.1 1 q = some q2 := (BdE.C h437 (by rw [hf35]; decide) 1).trans hf39
      have hf460 : K427.1 q2 = 1 := (BdE.T h437 hf40 (by decide))
      have hO : OKP G h0 a (upd (upd (upd (upd (upd (upd (upd F 2 (nI sz)) 5 (nI cs429)) 7 (nI hd)) 12 (nI vr)) 13 as430) 14 wt431) 15 wf432) (updR (updR R 2 (.ref pq)) 3 (.ref mq)) Z B428 J K427 w := hO.to rfl
      refine W.widen (k := 0) (n := 0) (by show 0 + 0 ≤ 0; omega) (by show 0 + 0 ≤ 0; omega) ?_
      refine W.eq (g2 := F0 m 153 ls [.int (nI t433), .ref q2, .ref (a 4)]) rfl ?_
      have hbe461 := BdE.trans hbe41 h437
      have hbb462 : Bth B B428 := Bth.trans (show Thx (upd (upd (upd (upd (upd F 2 (nI sz)) 5 (nI cs)) 7 (nI hd)) 12 (nI vr)) 13 as9) (upd (upd (upd (upd (upd (upd (upd (upd (upd F 2 (nI sz)) 5 (nI cs)) 7 (nI hd)) 12 (nI vr)) 13 as9) 5 (nI cs8)) 13 as10) 14 wt11) 15 wf12) B B7 from (Thx.f (Thx.f (Thx.f (Thx.f (Bth.thx hbb42) (by omega)) (by omega)) (by omega)) (by omega))).2 h441
      have hng463 : Nng (B428 18) := h441.2 hng43
      have hsw464 : ∀ x9 : Nat, x9 < cs → (B428 16) x9 = B 16 x9 := fun x9 hx9 => ((h436 x9 (by omega)).1).trans (hsw44 x9 hx9)
      have hsw465 : ∀ x9 : Nat, x9 < cs → (B428 17) x9 = B 17 x9 := fun x9 hx9 => ((h436 x9 (by omega)).2.1).trans (hsw45 x9 hx9)
      have hsw466 : ∀ x9 : Nat, x9 < cs → (B428 18) x9 = B 18 x9 := fun x9 hx9 => ((h436 x9 (by omega)).2.2.1).trans (hsw46 x9 hx9)
      have hsw467 : ∀ x9 : Nat, x9 < cs → (B428 19) x9 = B 19 x9 := fun x9 hx9 => ((h436 x9 (by omega)).2.2.2).trans (hsw47 x9 hx9)
      have hbf468 := BeF.trans hbf48 h438 hbe41
      have hbl471 := BeL.trans hbl51 h439 hbe41
      have hbi472 := BeI.trans hbi52 h440 hbe41 hin1
      have hbr469 : BeR B B428 := BeR.trans hbr49 h442
      have hpt470 : ((okA ∧ ¬ t13 = 63) ∧ ¬ t433 = 63) → EvQ pb.1 pb.2.1 pb.2.2.1 pb.2.2.2 (B 16) (B 17) (B 18) (B 19) (B428 16) (B428 17) (B428 18) (B428 19) Ag Ag434 pd m9 sn lo cs cs429 as9 as430 hd sl (u435 :: (u15 :: os)) ∧ UTb u435 (nI t433) as430 wt431 wf432 := fun z => VaQ.part (B1 := B7) (hev53 z.1) (h446 z.1) h443 z.2
      have hev473 := fun z => (hpt470 z).1
      have has474 : AsE as9 as430 ∧ AsE as9 wt431 ∧ AsE as9 wf432 := ⟨AsE.trans has54.1 h445.1, AsE.trans has54.1 h445.2.1, AsE.trans has54.1 h445.2.2⟩
      refine lv_iload_n hx hb dX0_sign_153 rfl (lv_at hl 0 rfl) ?_
      have hO : OKP G h0 a (upd (upd (upd (upd (upd (upd (upd (upd (upd (upd F 2 (nI sz)) 5 (nI cs)) 7 (nI hd)) 12 (nI vr)) 13 as9) 5 (nI cs429)) 13 as430) 14 wt431) 15 wf432) 2 (nI sz)) (updR (updR (updR R 2 (.ref pq)) 3 (.ref mq)) 2 (.ref pq)) Z B428 J K427 w := hO.to rfl
      obtain ⟨_, qr478, hqr479⟩ := hO.2.1 24 _ (sg_24 G h0 a _ _ _ _ _)
      refine pn_V0 (G := G) (As := [.ref q2, .int (nI t433), .int (nI t13)]) (rest := []) hx hb hml hown hq hE hX pX0_al hP hD hS hA hl.1 (Y_fit l G h0 a (upd (upd (upd (upd (upd (upd (upd (upd (upd F 2 (nI sz)) 5 (nI cs)) 7 (nI hd)) 12 (nI vr)) 13 as9) 5 (nI cs429)) 13 as430) 14 wt431) 15 wf432) (updR (updR R 2 (.ref pq)) 3 (.ref mq)) Z B428 J K427 w pq dr ml nd q2 sz t433 t13 g pb (by omega) (BdE.pt hbe461 hwp hps).1 (BdE.pt hbe461 hwp hps).2.1 hf460 (by omega) hna.1.1 (NaB.be hbe461 hbf468 hwp hps.2.1 hdr0 (hbr469 11 (by decide)) hna).1.2.2 hO hl0) (gV pw_176 pw_177 pw_178 pw_63 pw_114) hV_X0_fit qr478 0 hqr479 rfl rfl rfl (Nat.le_of_ble_eq_true rfl) dX0_sign_154 ⟨(by show 0 + 1 ≤ 1; omega), (by show 0 + 6 ≤ 6; omega)⟩ ⟨(by show 7 + 1 ≤ (5 * n + 33); omega), (by show 8 + (4 + 11) + 122 ≤ (200 * n + 560); omega)⟩ (fun v477 u475 H locs hw476 hP hD hS => ?_) (fun ux ce9 q9 H9 locs9 hux hP9 hD9 hS9 hce hcv hcl => pb_out ux (ThQ.up (Thx.same (Thx.f (Thx.f (Thx.f (Thx.f (Bth.thx hbb462) (by omega)) (by omega)) (by omega)) (by omega)) rfl) (show RhX (updR (updR R 2 (.ref pq)) 3 (.ref mq)) (updR (updR (updR R 2 (.ref pq)) 3 (.ref mq)) 2 (.ref pq)) from fun k9 hk9 => by unfold updR; simp only [show ¬ k9 = 1 by omega, show ¬ k9 = 2 by omega, show ¬ k9 = 3 by omega, show ¬ k9 = 4 by omega, if_false]) hux) hnt hlocks hce hcv hcl hP9 hD9 hS9 (by show 0 + 1 ≤ 1; omega) (by show 0 + 6 ≤ 6; omega))
      obtain ⟨w, _⟩ := u475
      obtain ⟨hw476, h480, hO⟩ := hw476
      have h480 : FtQ pb t433 t13 := h480
      obtain rfl : v477 = none := hw476
      have hO : OKP G h0 a (upd (upd (upd (upd (upd (upd (upd F 2 (nI sz)) 5 (nI cs429)) 7 (nI hd)) 12 (nI vr)) 13 as430) 14 wt431) 15 wf432) (updR (updR R 2 (.ref pq)) 3 (.ref mq)) Z B428 J K427 w := hO.to rfl
      refine W.widen (k := 0) (n := 0) (by show 0 + 0 ≤ 0; omega) (by show 0 + 0 ≤ 0; omega) ?_
      refine W.eq (g2 := F0 m 157 ls []) rfl ?_
      refine lv_aload_n hx hb dX0_sign_157 rfl (lv_at hl 1 rfl) ?_
      refine lv_bipush (v := 10) hx hb dX0_sign_158 (by decide) ?_
      refine lv_iload_n hx hb dX0_sign_160 rfl (lv_at hl 3 rfl) ?_
      refine lv_iload_n hx hb dX0_sign_161 rfl (lv_at hl 0 rfl) ?_
      have hut481 := fun z : okA => (hpt50 ⟨z, (by omega)⟩).2
      have hut482 := fun z : okA => (hpt470 ⟨⟨z, (by omega)⟩, h480.1⟩).2
      have hev483 := fun z : okA => hev473 ⟨⟨z, (by omega)⟩, h480.1⟩
      have hfb := h480
      have he9 : t13 = 60 := by omega
      have hO : OKW G h0 a (upd (upd (upd (upd (upd (upd (upd (upd (upd F 2 (nI sz)) 5 (nI cs429)) 7 (nI hd)) 12 (nI vr)) 13 as430) 14 wt431) 15 wf432) 5 (nI cs429)) 7 (nI hd)) (updR (updR R 2 (.ref pq)) 3 (.ref mq)) Z B428 J K427.1 (fun q99 x99 => x99 = rep G a K427 q99) w := hO.to rfl
      obtain ⟨_, qr487, hqr488⟩ := hO.2.1 24 _ (sg_24 G h0 a _ _ _ _ _)
      refine pc_V0 (G := G) (As := [.int 10, .int 51, .int (nI t13)]) (rest := []) hx hb hml hown hq hE hX pX0_al hP hD hS hA hl.1 (Y_give l G h0 a (upd (upd (upd (upd (upd (upd (upd F 2 (nI sz)) 5 (nI cs429)) 7 (nI hd)) 12 (nI vr)) 13 as430) 14 wt431) 15 wf432) (updR (updR R 2 (.ref pq)) 3 (.ref mq)) Z B428 J K427.1 (fun q99 x99 => x99 = rep G a K427 q99) w 10 51 (nI t13) cs429 hd (by omega) hO) (gV pw_158 pw_159 pw_160 pw_63 pw_128) hV_X0_give qr487 0 hqr488 rfl rfl rfl (Nat.le_of_ble_eq_true rfl) dX0_sign_162 ⟨(by show 0 + 0 ≤ 1; omega), (by show 0 + 0 ≤ 6; omega)⟩ ⟨(by show 3 + 1 ≤ (5 * n + 33); omega), (by show 8 + (4 + 11) + 83 ≤ (200 * n + 560); omega)⟩ (fun v486 u484 H locs hw485 hP hD hS => ?_)
      obtain ⟨w, _⟩ := u484
      obtain ⟨hw485, hO⟩ := hw485
      obtain rfl : v486 = some (.int (nI t13)) := hw485
      have hO : OKP G h0 a (upd (upd (upd (upd (upd (upd (upd F 2 (nI sz)) 5 (nI (cs429 + 1))) 7 (nI hd)) 12 (nI vr)) 13 as430) 14 wt431) 15 wf432) (updR (updR R 2 (.ref pq)) 3 (.ref mq)) Z (updA (updA (updA (updA B428 16 (upd ((B428 16)) cs429 10)) 17 (upd ((B428 17)) cs429 51)) 18 (upd ((B428 18)) cs429 0)) 19 (upd ((B428 19)) cs429 (nI hd))) J K427 w := hO.to rfl
      refine W.widen (k := 0) (n := 0) (Nat.le_of_ble_eq_true rfl) (Nat.le_of_ble_eq_true rfl) ?_
      refine W.eq (g2 := F0 m 165 ls [.int (nI t13)]) rfl ?_
      have hsw489 : ∀ x9 : Nat, x9 < cs → (upd ((B428 16)) cs429 10) x9 = B 16 x9 := fun x9 hx9 => (if_neg (by omega)).trans (hsw464 x9 hx9)
      have hsw490 : ∀ x9 : Nat, x9 < cs → (upd ((B428 17)) cs429 51) x9 = B 17 x9 := fun x9 hx9 => (if_neg (by omega)).trans (hsw465 x9 hx9)
      have hsw491 : ∀ x9 : Nat, x9 < cs → (upd ((B428 18)) cs429 0) x9 = B 18 x9 := fun x9 hx9 => (if_neg (by omega)).trans (hsw466 x9 hx9)
      have hsw492 : ∀ x9 : Nat, x9 < cs → (upd ((B428 19)) cs429 (nI hd)) x9 = B 19 x9 := fun x9 hx9 => (if_neg (by omega)).trans (hsw467 x9 hx9)
      obtain ⟨Ag493, hev494⟩ : ∃ A5 : Nat → AS, okA → EvQ pb.1 pb.2.1 pb.2.2.1 pb.2.2.2 (B 16) (B 17) (B 18) (B 19) (upd ((B428 16)) cs429 10) (upd ((B428 17)) cs429 51) (upd ((B428 18)) cs429 0) (upd ((B428 19)) cs429 (nI hd)) Ag A5 pd m9 sn lo cs (cs429 + 1) as9 as430 hd sl (t13 :: os) := ⟨(upS Ag434 (cs429 + 1) (rcA as430, hd, sl, (t13 :: os))), fun z => (hev483 z).trans (EmS.sign (hev483 z).1 (by show os.length + 1 + 1 ≤ 248; omega) (u := t13) (by rw [he9]; exact SgT.bit (by decide)))⟩
      have hng9 : Nng (upd ((B428 18)) cs429 0) := Nng.set hng463 (k := 0) (by omega)
      have hng495 := hng9
      refine W_size (fun hz1 hz2 => ?_)
      refine vx_ret ?_
      have hz496 : SmW B (updA (updA (updA (updA B428 16 (upd ((B428 16)) cs429 10)) 17 (upd ((B428 17)) cs429 51)) 18 (upd ((B428 18)) cs429 0)) 19 (upd ((B428 19)) cs429 (nI hd))) cs := (fun x9 hx9 => ⟨hsw489 x9 hx9, hsw490 x9 hx9, hsw491 x9 hx9, hsw492 x9 hx9⟩)
      have hz497 : BdE K K427 := hbe461
      have hz498 : BeF K K427 := hbf468
      have hz499 : BeL K K427 none := hbl471
      have hz500 : BeI K K427 g q := hbi472
      have hz501 : Bth B (updA (updA (updA (updA B428 16 (upd ((B428 16)) cs429 10)) 17 (upd ((B428 17)) cs429 51)) 18 (upd ((B428 18)) cs429 0)) 19 (upd ((B428 19)) cs429 (nI hd))) := (show Thx (upd (upd (upd (upd (upd F 2 (nI sz)) 5 (nI cs)) 7 (nI hd)) 12 (nI vr)) 13 as9) (upd (upd (upd (upd (upd (upd (upd (upd (upd F 2 (nI sz)) 5 (nI cs)) 7 (nI hd)) 12 (nI vr)) 13 as9) 5 (nI (cs429 + 1))) 13 as430) 14 wt431) 15 wf432) B (updA (updA (updA (updA B428 16 (upd ((B428 16)) cs429 10)) 17 (upd ((B428 17)) cs429 51)) 18 (upd ((B428 18)) cs429 0)) 19 (upd ((B428 19)) cs429 (nI hd))) from (Thx.b (Thx.b8 (Thx.b (Thx.b (Thx.f (Thx.f (Thx.f (Thx.f (Bth.thx hbb462) (by omega)) (by omega)) (by omega)) (by omega)) (by omega) (by decide)) (by omega) (by decide)) hng495) (by omega) (by decide))).2
      have hz502 : BeR B (updA (updA (updA (updA B428 16 (upd ((B428 16)) cs429 10)) 17 (upd ((B428 17)) cs429 51)) 18 (upd ((B428 18)) cs429 0)) 19 (upd ((B428 19)) cs429 (nI hd))) := (BeR.up (k := 19) (f := (upd ((B428 19)) cs429 (nI hd))) (BeR.up (k := 18) (f := (upd ((B428 18)) cs429 0)) (BeR.up (k := 17) (f := (upd ((B428 17)) cs429 51)) (BeR.up (k := 16) (f := (upd ((B428 16)) cs429 10)) hbr469 (by omega)) (by omega)) (by omega)) (by omega))
      have hz503 : t13 < 128 := (by omega)
      have hz504 : cs ≤ (cs429 + 1) ∧ (cs429 + 1) + 0 ≤ cs + 2 * tlE g q := (by omega)
      have hz505 : AsE as9 as430 := has474.1
      have hz506 : okA → PlQ pb B (updA (updA (updA (updA B428 16 (upd ((B428 16)) cs429 10)) 17 (upd ((B428 17)) cs429 51)) 18 (upd ((B428 18)) cs429 0)) 19 (upd ((B428 19)) cs429 (nI hd))) Ag Ag493 pd m9 sn lo cs (cs429 + 1) as9 as430 hd sl os t13 (K.2.1 0 q) := (fun z => Or.inr ⟨by rw [rsO_ne (by omega)]; exact hev494 z, by omega⟩)
      have hO : OKP G h0 a (upd (upd (upd (upd (upd (upd (upd F 2 (nI sz)) 5 (nI (cs429 + 1))) 7 (nI hd)) 12 (nI vr)) 13 as430) 14 wt431) 15 wf432) (updR (updR R 2 (.ref pq)) 3 (.ref mq)) Z (updA (updA (updA (updA B428 16 (upd ((B428 16)) cs429 10)) 17 (upd ((B428 17)) cs429 51)) 18 (upd ((B428 18)) cs429 0)) 19 (upd ((B428 19)) cs429 (nI hd))) J K427 w := hO.to rfl
      refine W.widen (k := 1) (n := 6) (by omega) (by omega) ?_
      have hzz1 : H.size ≤ s.heap.size + (0) := (by have z : 0 ≤ 0 := (by omega); omega)
      have hzz2 : hSl H ≤ hSl s.heap + (0) := (by have z : 0 ≤ 0 := (by omega); omega)
      exact W.iret (v := (nI t13)) hx hb hr (fun t99 ht99 hW99 => ⟨⟨_, (w, (K427, (updA (updA (updA (updA B428 16 (upd ((B428 16)) cs429 10)) 17 (upd ((B428 17)) cs429 51)) 18 (upd ((B428 18)) cs429 0)) 19 (upd ((B428 19)) cs429 (nI hd))), (cs429 + 1), as430, wt431, wf432, t13, Ag493)), rfl, ⟨rfl, hz496, hz497, hz498, hz499, hz500, hz501, hz502, hz503, hz504, hz505, hz506, hO⟩, by rw [ht99]; exact hP, hD, by rw [ht99]; exact hzz1, by rw [ht99]; exact hzz2⟩, hS.F ht99⟩) hS.2.2 dX0_sign_165
    · have n507 : ¬ (t13 = 60) := fun h9 => c420 ((nI_eq (a := t13) (b := 60) (by omega) (by omega)).mpr h9)
      refine lv_iload_n hx hb dX0_sign_118 rfl (lv_at hl 0 rfl) ?_
      refine lv_bipush (v := 61) hx hb dX0_sign_119 (by decide) ?_
      refine lv_icmp_eq (tgt := 140) hx hb dX0_sign_121 (by decide) (fun c508 => ?_) (fun c508 => ?_)
      · have n509 : t13 = 61 := (nI_eq (a := t13) (b := 61) (by omega) (by omega)).mp c508
        refine lv_aload_n hx hb dX0_sign_140 rfl (lv_at hl 1 rfl) ?_
        refine lv_aload_n hx hb dX0_sign_141 rfl (lv_at hl 2 rfl) ?_
        refine p_get (v := .ref q2) (C := RX7) (Tc := TX7) (N := 11) (ci := 13) hx hb hq pin_wsX70 hown hE hP hO (by rw [hf35]; decide) (rep_1 hf35) rfl 7 (by decide) (hq _ pw_169) (fun _ h9 => h9) (congrArg (fun z => some (va_rf z)) hf39) dX0_sign_142 ?_
        refine lv_aload_n hx hb dX0_sign_145 rfl (lv_at hl 1 rfl) ?_
        refine lv_aload_n hx hb dX0_sign_146 rfl (lv_at hl 2 rfl) ?_
        refine p_get (v := .ref q2) (C := RX7) (Tc := TX7) (N := 11) (ci := 13) hx hb hq pin_wsX70 hown hE hP hO (by rw [hf35]; decide) (rep_1 hf35) rfl 7 (by decide) (hq _ pw_169) (fun _ h9 => h9) (congrArg (fun z => some (va_rf z)) hf39) dX0_sign_147 ?_
        have hO : OKP G h0 a (upd (upd (upd (upd (upd (upd (upd (upd (upd (upd (upd (upd (upd (upd F 2 (nI sz)) 5 (nI cs)) 7 (nI hd)) 12 (nI vr)) 13 as9) 5 (nI cs8)) 13 as10) 14 wt11) 15 wf12) 2 (nI sz)) 5 (nI cs8)) 7 (nI hd)) 12 (nI vr)) 13 as10) (updR (updR (updR (updR R 2 (.ref pq)) 3 (.ref mq)) 2 (.ref pq)) 3 (.ref mq)) Z B7 J K6 w := hO.to rfl
        obtain ⟨_, qr513, hqr514⟩ := hO.2.1 24 _ (sg_24 G h0 a _ _ _ _ _)
        refine pn_V0 (G := G) (As := [.ref q2]) (rest := [.ref q2, .ref (a 4)]) hx hb hml hown hq hE hX pX0_al hP hD hS hA hl.1 ((ihv (by omega)) h0 a (upd (upd (upd (upd (upd (upd (upd (upd (upd F 2 (nI sz)) 5 (nI cs)) 7 (nI hd)) 12 (nI vr)) 13 as9) 5 (nI cs8)) 13 as10) 14 wt11) 15 wf12) (updR (updR R 2 (.ref pq)) 3 (.ref mq)) Z B7 J K6 w pq dr ml nd nm cp it s9 q2 mq cs8 vr sz g rk pb Ag14 pd sl (u15 :: os) m9 sn lo hd c0 as10 (okA ∧ ¬ t13 = 63) (by omega) (BdE.wp hbe41 hwp) (BdE.pt hbe41 hwp hps) (BdE.rko hbe41 hrk) (by omega) (by omega) hng43 hf36 hf40 ⟨hv1.1, (by have z9 := hv1; omega)⟩ (EkA.be hbe41 (hbr49 7 (by decide)) (hbr49 11 (by decide)) hek) (OwC.be hbe41 hmq hdr0 hcO) (NaB.be hbe41 hbf48 hwp hps.2.1 hdr0 (hbr49 11 (by decide)) hna) (EnV.of (hbr49 26 (by decide)) (hbr49 27 (by decide)) hen) (fun z => (hev53 z).1) (by omega) (by show os.length + 1 + ndE g q2 ≤ 248; omega) hlf1 hO hl0) (gV pw_173 pw_174 pw_175 pw_63 pw_224) hV_X0_value qr513 0 hqr514 rfl rfl rfl (Nat.le_of_ble_eq_true rfl) dX0_sign_150 ⟨(by show 0 + 1 ≤ 1; omega), (by show 0 + 6 ≤ 6; omega)⟩ ⟨(by show (5 * (n - 1) + 34) + 1 ≤ (5 * n + 33); omega), (by show 8 + (3 + 11) + (200 * (n - 1) + 600) ≤ (200 * n + 560); omega)⟩ (fun v512 u510 H locs hw511 hP hD hS => ?_) (fun ux ce9 q9 H9 locs9 hux hP9 hD9 hS9 hce hcv hcl => pb_out ux (ThQ.up (Thx.same (Thx.same (Thx.same (Thx.same (Thx.same (Thx.f (Thx.f (Thx.f (Thx.f (Bth.thx hbb42) (by omega)) (by omega)) (by omega)) (by omega)) rfl) rfl) rfl) rfl) rfl) (show RhX (updR (updR R 2 (.ref pq)) 3 (.ref mq)) (updR (updR (updR (updR R 2 (.ref pq)) 3 (.ref mq)) 2 (.ref pq)) 3 (.ref mq)) from fun k9 hk9 => by unfold updR; simp only [show ¬ k9 = 1 by omega, show ¬ k9 = 2 by omega, show ¬ k9 = 3 by omega, show ¬ k9 = 4 by omega, if_false]) hux) hnt hlocks hce hcv hcl hP9 hD9 hS9 (by show 0 + 1 ≤ 1; omega) (by show 0 + 6 ≤ 6; omega))
        obtain ⟨w, K515, B516, cs517, as518, wt519, wf520, t521, Ag522, u523⟩ := u510
        obtain ⟨hw511, h524, h525, h526, h527, h528, h529, h530, h531, h532, h533, h534, h535, hO⟩ := hw511
        have h524 : SmW B7 B516 cs8 := h524
        have h525 : BdE K6 K515 := h525
        have h526 : BeF K6 K515 := h526
        have h527 : BeL K6 K515 none := h527
        have h528 : BeI K6 K515 g q2 := h528
        have h529 : Bth B7 B516 := h529
        have h530 : BeR B7 B516 := h530
        have h531 : t521 < 128 := h531
        have h532 : cs8 ≤ cs517 ∧ cs517 + 0 ≤ cs8 + 2 * tlE g q2 := h532
        have h533 : AsE as10 as518 ∧ AsE as10 wt519 ∧ AsE as10 wf520 := h533
        have h534 : (okA ∧ ¬ t13 = 63) → VaQ pb B7 B516 Ag14 Ag522 pd m9 sn lo cs8 cs517 as10 as518 wt519 wf520 hd sl (u15 :: os) t521 u523 (K6.2.1 0 q2) := h534
        have h535 : CaK (K6.2.1 0 q2) → cs517 + 2 ≤ cs8 + 2 * tlE g q2 := h535
        obtain rfl : v512 = some (.int (nI t521)) := hw511
        have hf536 : K515.1 pq = 7 := (BdE.T h525 hf28 (by decide))
        have hf537 : K515.2.2.1 18 pq = some (a 1) := (BdE.C h525 (by rw [hf28]; decide) 18).trans hf29
        have hf538 : K515.2.2.1 14 pq = some dr := (BdE.C h525 (by rw [hf28]; decide) 14).trans hf30
        have hf539 : K515.1 dr = 8 := (BdE.T h525 hf31 (by decide))
        have hf540 : K515.2.2.1 15 pq = some ml := (BdE.C h525 (by rw [hf28]; decide) 15).trans hf32
        have hf541 : K515.1 ml = 5 := (BdE.T h525 hf33 (by decide))
        have hf542 : K515.2.1 24 pq = (nI nd) := (BdE.I h525 (by rw [hf28]; decide) (by decide) (by decide)).trans hf34
        have hf543 : K515.1 q = 1 := (BdE.T h525 hf35 (by decide))
        have hf544 : K515.1 mq = 3 := (BdE.T h525 hf36 (by decide))
        have hf545 : K515.2.2.1 0 q = some q1 := (BdE.C h525 (by rw [hf35]; decide) 0).trans hf37
        have hf546 : K515.1 q1 = 1 := (BdE.T h525 hf38 (by decide))
        have hf547 : K515.2.2.1 1 q = some q2 := (BdE.C h525 (by rw [hf35]; decide) 1).trans hf39
        have hf548 : K515.1 q2 = 1 := (BdE.T h525 hf40 (by decide))
        have hO : OKP G h0 a (upd (upd (upd (upd (upd (upd (upd F 2 (nI sz)) 5 (nI cs517)) 7 (nI hd)) 12 (nI vr)) 13 as518) 14 wt519) 15 wf520) (updR (updR R 2 (.ref pq)) 3 (.ref mq)) Z B516 J K515 w := hO.to rfl
        refine W.widen (k := 0) (n := 0) (by show 0 + 0 ≤ 0; omega) (by show 0 + 0 ≤ 0; omega) ?_
        refine W.eq (g2 := F0 m 153 ls [.int (nI t521), .ref q2, .ref (a 4)]) rfl ?_
        have hbe549 := BdE.trans hbe41 h525
        have hbb550 : Bth B B516 := Bth.trans (show Thx (upd (upd (upd (upd (upd F 2 (nI sz)) 5 (nI cs)) 7 (nI hd)) 12 (nI vr)) 13 as9) (upd (upd (upd (upd (upd (upd (upd (upd (upd F 2 (nI sz)) 5 (nI cs)) 7 (nI hd)) 12 (nI vr)) 13 as9) 5 (nI cs8)) 13 as10) 14 wt11) 15 wf12) B B7 from (Thx.f (Thx.f (Thx.f (Thx.f (Bth.thx hbb42) (by omega)) (by omega)) (by omega)) (by omega))).2 h529
        have hng551 : Nng (B516 18) := h529.2 hng43
        have hsw552 : ∀ x9 : Nat, x9 < cs → (B516 16) x9 = B 16 x9 := fun x9 hx9 => ((h524 x9 (by omega)).1).trans (hsw44 x9 hx9)
        have hsw553 : ∀ x9 : Nat, x9 < cs → (B516 17) x9 = B 17 x9 := fun x9 hx9 => ((h524 x9 (by omega)).2.1).trans (hsw45 x9 hx9)
        have hsw554 : ∀ x9 : Nat, x9 < cs → (B516 18) x9 = B 18 x9 := fun x9 hx9 => ((h524 x9 (by omega)).2.2.1).trans (hsw46 x9 hx9)
        have hsw555 : ∀ x9 : Nat, x9 < cs → (B516 19) x9 = B 19 x9 := fun x9 hx9 => ((h524 x9 (by omega)).2.2.2).trans (hsw47 x9 hx9)
        have hbf556 := BeF.trans hbf48 h526 hbe41
        have hbl559 := BeL.trans hbl51 h527 hbe41
        have hbi560 := BeI.trans hbi52 h528 hbe41 hin1
        have hbr557 : BeR B B516 := BeR.trans hbr49 h530
        have hpt558 : ((okA ∧ ¬ t13 = 63) ∧ ¬ t521 = 63) → EvQ pb.1 pb.2.1 pb.2.2.1 pb.2.2.2 (B 16) (B 17) (B 18) (B 19) (B516 16) (B516 17) (B516 18) (B516 19) Ag Ag522 pd m9 sn lo cs cs517 as9 as518 hd sl (u523 :: (u15 :: os)) ∧ UTb u523 (nI t521) as518 wt519 wf520 := fun z => VaQ.part (B1 := B7) (hev53 z.1) (h534 z.1) h531 z.2
        have hev561 := fun z => (hpt558 z).1
        have has562 : AsE as9 as518 ∧ AsE as9 wt519 ∧ AsE as9 wf520 := ⟨AsE.trans has54.1 h533.1, AsE.trans has54.1 h533.2.1, AsE.trans has54.1 h533.2.2⟩
        refine lv_iload_n hx hb dX0_sign_153 rfl (lv_at hl 0 rfl) ?_
        have hO : OKP G h0 a (upd (upd (upd (upd (upd (upd (upd (upd (upd (upd F 2 (nI sz)) 5 (nI cs)) 7 (nI hd)) 12 (nI vr)) 13 as9) 5 (nI cs517)) 13 as518) 14 wt519) 15 wf520) 2 (nI sz)) (updR (updR (updR R 2 (.ref pq)) 3 (.ref mq)) 2 (.ref pq)) Z B516 J K515 w := hO.to rfl
        obtain ⟨_, qr566, hqr567⟩ := hO.2.1 24 _ (sg_24 G h0 a _ _ _ _ _)
        refine pn_V0 (G := G) (As := [.ref q2, .int (nI t521), .int (nI t13)]) (rest := []) hx hb hml hown hq hE hX pX0_al hP hD hS hA hl.1 (Y_fit l G h0 a (upd (upd (upd (upd (upd (upd (upd (upd (upd F 2 (nI sz)) 5 (nI cs)) 7 (nI hd)) 12 (nI vr)) 13 as9) 5 (nI cs517)) 13 as518) 14 wt519) 15 wf520) (updR (updR R 2 (.ref pq)) 3 (.ref mq)) Z B516 J K515 w pq dr ml nd q2 sz t521 t13 g pb (by omega) (BdE.pt hbe549 hwp hps).1 (BdE.pt hbe549 hwp hps).2.1 hf548 (by omega) hna.1.1 (NaB.be hbe549 hbf556 hwp hps.2.1 hdr0 (hbr557 11 (by decide)) hna).1.2.2 hO hl0) (gV pw_176 pw_177 pw_178 pw_63 pw_114) hV_X0_fit qr566 0 hqr567 rfl rfl rfl (Nat.le_of_ble_eq_true rfl) dX0_sign_154 ⟨(by show 0 + 1 ≤ 1; omega), (by show 0 + 6 ≤ 6; omega)⟩ ⟨(by show 7 + 1 ≤ (5 * n + 33); omega), (by show 8 + (4 + 11) + 122 ≤ (200 * n + 560); omega)⟩ (fun v565 u563 H locs hw564 hP hD hS => ?_) (fun ux ce9 q9 H9 locs9 hux hP9 hD9 hS9 hce hcv hcl => pb_out ux (ThQ.up (Thx.same (Thx.f (Thx.f (Thx.f (Thx.f (Bth.thx hbb550) (by omega)) (by omega)) (by omega)) (by omega)) rfl) (show RhX (updR (updR R 2 (.ref pq)) 3 (.ref mq)) (updR (updR (updR R 2 (.ref pq)) 3 (.ref mq)) 2 (.ref pq)) from fun k9 hk9 => by unfold updR; simp only [show ¬ k9 = 1 by omega, show ¬ k9 = 2 by omega, show ¬ k9 = 3 by omega, show ¬ k9 = 4 by omega, if_false]) hux) hnt hlocks hce hcv hcl hP9 hD9 hS9 (by show 0 + 1 ≤ 1; omega) (by show 0 + 6 ≤ 6; omega))
        obtain ⟨w, _⟩ := u563
        obtain ⟨hw564, h568, hO⟩ := hw564
        have h568 : FtQ pb t521 t13 := h568
        obtain rfl : v565 = none := hw564
        have hO : OKP G h0 a (upd (upd (upd (upd (upd (upd (upd F 2 (nI sz)) 5 (nI cs517)) 7 (nI hd)) 12 (nI vr)) 13 as518) 14 wt519) 15 wf520) (updR (updR R 2 (.ref pq)) 3 (.ref mq)) Z B516 J K515 w := hO.to rfl
        refine W.widen (k := 0) (n := 0) (by show 0 + 0 ≤ 0; omega) (by show 0 + 0 ≤ 0; omega) ?_
        refine W.eq (g2 := F0 m 157 ls []) rfl ?_
        refine lv_aload_n hx hb dX0_sign_157 rfl (lv_at hl 1 rfl) ?_
        refine lv_bipush (v := 10) hx hb dX0_sign_158 (by decide) ?_
        refine lv_iload_n hx hb dX0_sign_160 rfl (lv_at hl 3 rfl) ?_
        refine lv_iload_n hx hb dX0_sign_161 rfl (lv_at hl 0 rfl) ?_
        have hut569 := fun z : okA => (hpt50 ⟨z, (by omega)⟩).2
        have hut570 := fun z : okA => (hpt558 ⟨⟨z, (by omega)⟩, h568.1⟩).2
        have hev571 := fun z : okA => hev561 ⟨⟨z, (by omega)⟩, h568.1⟩
        have hfb := h568
        have he9 : t13 = 61 := by omega
        have hO : OKW G h0 a (upd (upd (upd (upd (upd (upd (upd (upd (upd F 2 (nI sz)) 5 (nI cs517)) 7 (nI hd)) 12 (nI vr)) 13 as518) 14 wt519) 15 wf520) 5 (nI cs517)) 7 (nI hd)) (updR (updR R 2 (.ref pq)) 3 (.ref mq)) Z B516 J K515.1 (fun q99 x99 => x99 = rep G a K515 q99) w := hO.to rfl
        obtain ⟨_, qr575, hqr576⟩ := hO.2.1 24 _ (sg_24 G h0 a _ _ _ _ _)
        refine pc_V0 (G := G) (As := [.int 10, .int 51, .int (nI t13)]) (rest := []) hx hb hml hown hq hE hX pX0_al hP hD hS hA hl.1 (Y_give l G h0 a (upd (upd (upd (upd (upd (upd (upd F 2 (nI sz)) 5 (nI cs517)) 7 (nI hd)) 12 (nI vr)) 13 as518) 14 wt519) 15 wf520) (updR (updR R 2 (.ref pq)) 3 (.ref mq)) Z B516 J K515.1 (fun q99 x99 => x99 = rep G a K515 q99) w 10 51 (nI t13) cs517 hd (by omega) hO) (gV pw_158 pw_159 pw_160 pw_63 pw_128) hV_X0_give qr575 0 hqr576 rfl rfl rfl (Nat.le_of_ble_eq_true rfl) dX0_sign_162 ⟨(by show 0 + 0 ≤ 1; omega), (by show 0 + 0 ≤ 6; omega)⟩ ⟨(by show 3 + 1 ≤ (5 * n + 33); omega), (by show 8 + (4 + 11) + 83 ≤ (200 * n + 560); omega)⟩ (fun v574 u572 H locs hw573 hP hD hS => ?_)
        obtain ⟨w, _⟩ := u572
        obtain ⟨hw573, hO⟩ := hw573
        obtain rfl : v574 = some (.int (nI t13)) := hw573
        have hO : OKP G h0 a (upd (upd (upd (upd (upd (upd (upd F 2 (nI sz)) 5 (nI (cs517 + 1))) 7 (nI hd)) 12 (nI vr)) 13 as518) 14 wt519) 15 wf520) (updR (updR R 2 (.ref pq)) 3 (.ref mq)) Z (updA (updA (updA (updA B516 16 (upd ((B516 16)) cs517 10)) 17 (upd ((B516 17)) cs517 51)) 18 (upd ((B516 18)) cs517 0)) 19 (upd ((B516 19)) cs517 (nI hd))) J K515 w := hO.to rfl
        refine W.widen (k := 0) (n := 0) (Nat.le_of_ble_eq_true rfl) (Nat.le_of_ble_eq_true rfl) ?_
        refine W.eq (g2 := F0 m 165 ls [.int (nI t13)]) rfl ?_
        have hsw577 : ∀ x9 : Nat, x9 < cs → (upd ((B516 16)) cs517 10) x9 = B 16 x9 := fun x9 hx9 => (if_neg (by omega)).trans (hsw552 x9 hx9)
        have hsw578 : ∀ x9 : Nat, x9 < cs → (upd ((B516 17)) cs517 51) x9 = B 17 x9 := fun x9 hx9 => (if_neg (by omega)).trans (hsw553 x9 hx9)
        have hsw579 : ∀ x9 : Nat, x9 < cs → (upd ((B516 18)) cs517 0) x9 = B 18 x9 := fun x9 hx9 => (if_neg (by omega)).trans (hsw554 x9 hx9)
        have hsw580 : ∀ x9 : Nat, x9 < cs → (upd ((B516 19)) cs517 (nI hd)) x9 = B 19 x9 := fun x9 hx9 => (if_neg (by omega)).trans (hsw555 x9 hx9)
        obtain ⟨Ag581, hev582⟩ : ∃ A5 : Nat → AS, okA → EvQ pb.1 pb.2.1 pb.2.2.1 pb.2.2.2 (B 16) (B 17) (B 18) (B 19) (upd ((B516 16)) cs517 10) (upd ((B516 17)) cs517 51) (upd ((B516 18)) cs517 0) (upd ((B516 19)) cs517 (nI hd)) Ag A5 pd m9 sn lo cs (cs517 + 1) as9 as518 hd sl (t13 :: os) := ⟨(upS Ag522 (cs517 + 1) (rcA as518, hd, sl, (t13 :: os))), fun z => (hev571 z).trans (EmS.sign (hev571 z).1 (by show os.length + 1 + 1 ≤ 248; omega) (u := t13) (by rw [he9]; exact SgT.bo (by decide) (UTb.bo9 (hut569 z) h23 he9) (UTb.bo9 (hut570 z) h531 (hfb.2.2.2.2.1 he9))))⟩
        have hng9 : Nng (upd ((B516 18)) cs517 0) := Nng.set hng551 (k := 0) (by omega)
        have hng583 := hng9
        refine W_size (fun hz1 hz2 => ?_)
        refine vx_ret ?_
        have hz584 : SmW B (updA (updA (updA (updA B516 16 (upd ((B516 16)) cs517 10)) 17 (upd ((B516 17)) cs517 51)) 18 (upd ((B516 18)) cs517 0)) 19 (upd ((B516 19)) cs517 (nI hd))) cs := (fun x9 hx9 => ⟨hsw577 x9 hx9, hsw578 x9 hx9, hsw579 x9 hx9, hsw580 x9 hx9⟩)
        have hz585 : BdE K K515 := hbe549
        have hz586 : BeF K K515 := hbf556
        have hz587 : BeL K K515 none := hbl559
        have hz588 : BeI K K515 g q := hbi560
        have hz589 : Bth B (updA (updA (updA (updA B516 16 (upd ((B516 16)) cs517 10)) 17 (upd ((B516 17)) cs517 51)) 18 (upd ((B516 18)) cs517 0)) 19 (upd ((B516 19)) cs517 (nI hd))) := (show Thx (upd (upd (upd (upd (upd F 2 (nI sz)) 5 (nI cs)) 7 (nI hd)) 12 (nI vr)) 13 as9) (upd (upd (upd (upd (upd (upd (upd (upd (upd F 2 (nI sz)) 5 (nI cs)) 7 (nI hd)) 12 (nI vr)) 13 as9) 5 (nI (cs517 + 1))) 13 as518) 14 wt519) 15 wf520) B (updA (updA (updA (updA B516 16 (upd ((B516 16)) cs517 10)) 17 (upd ((B516 17)) cs517 51)) 18 (upd ((B516 18)) cs517 0)) 19 (upd ((B516 19)) cs517 (nI hd))) from (Thx.b (Thx.b8 (Thx.b (Thx.b (Thx.f (Thx.f (Thx.f (Thx.f (Bth.thx hbb550) (by omega)) (by omega)) (by omega)) (by omega)) (by omega) (by decide)) (by omega) (by decide)) hng583) (by omega) (by decide))).2
        have hz590 : BeR B (updA (updA (updA (updA B516 16 (upd ((B516 16)) cs517 10)) 17 (upd ((B516 17)) cs517 51)) 18 (upd ((B516 18)) cs517 0)) 19 (upd ((B516 19)) cs517 (nI hd))) := (BeR.up (k := 19) (f := (upd ((B516 19)) cs517 (nI hd))) (BeR.up (k := 18) (f := (upd ((B516 18)) cs517 0)) (BeR.up (k := 17) (f := (upd ((B516 17)) cs517 51)) (BeR.up (k := 16) (f := (upd ((B516 16)) cs517 10)) hbr557 (by omega)) (by omega)) (by omega)) (by omega))
        have hz591 : t13 < 128 := (by omega)
        have hz592 : cs ≤ (cs517 + 1) ∧ (cs517 + 1) + 0 ≤ cs + 2 * tlE g q := (by omega)
        have hz593 : AsE as9 as518 := has562.1
        have hz594 : okA → PlQ pb B (updA (updA (updA (updA B516 16 (upd ((B516 16)) cs517 10)) 17 (upd ((B516 17)) cs517 51)) 18 (upd ((B516 18)) cs517 0)) 19 (upd ((B516 19)) cs517 (nI hd))) Ag Ag581 pd m9 sn lo cs (cs517 + 1) as9 as518 hd sl os t13 (K.2.1 0 q) := (fun z => Or.inr ⟨by rw [rsO_ne (by omega)]; exact hev582 z, by omega⟩)
        have hO : OKP G h0 a (upd (upd (upd (upd (upd (upd (upd F 2 (nI sz)) 5 (nI (cs517 + 1))) 7 (nI hd)) 12 (nI vr)) 13 as518) 14 wt519) 15 wf520) (updR (updR R 2 (.ref pq)) 3 (.ref mq)) Z (updA (updA (updA (updA B516 16 (upd ((B516 16)) cs517 10)) 17 (upd ((B516 17)) cs517 51)) 18 (upd ((B516 18)) cs517 0)) 19 (upd ((B516 19)) cs517 (nI hd))) J K515 w := hO.to rfl
        refine W.widen (k := 1) (n := 6) (by omega) (by omega) ?_
        have hzz1 : H.size ≤ s.heap.size + (0) := (by have z : 0 ≤ 0 := (by omega); omega)
        have hzz2 : hSl H ≤ hSl s.heap + (0) := (by have z : 0 ≤ 0 := (by omega); omega)
        exact W.iret (v := (nI t13)) hx hb hr (fun t99 ht99 hW99 => ⟨⟨_, (w, (K515, (updA (updA (updA (updA B516 16 (upd ((B516 16)) cs517 10)) 17 (upd ((B516 17)) cs517 51)) 18 (upd ((B516 18)) cs517 0)) 19 (upd ((B516 19)) cs517 (nI hd))), (cs517 + 1), as518, wt519, wf520, t13, Ag581)), rfl, ⟨rfl, hz584, hz585, hz586, hz587, hz588, hz589, hz590, hz591, hz592, hz593, hz594, hO⟩, by rw [ht99]; exact hP, hD, by rw [ht99]; exact hzz1, by rw [ht99]; exact hzz2⟩, hS.F ht99⟩) hS.2.2 dX0_sign_165
      · have n595 : ¬ (t13 = 61) := fun h9 => c508 ((nI_eq (a := t13) (b := 61) (by omega) (by omega)).mpr h9)
        refine lv_aload_n hx hb dX0_sign_124 rfl (lv_at hl 1 rfl) ?_
        refine c_get (v := .ref (a 1)) (C := RX0) (Tc := TX0) (N := 13) (ci := 0) hx hb hq pin_wsX00 hown hE hP hO 24 (sg_24 G h0 a _ _ _ _ _) rfl 0 (by decide) (hq _ pw_4) (fun _ h9 => h9) rfl dX0_sign_125 ?_
        refine lv_bipush (v := 11) hx hb dX0_sign_128 (by decide) ?_
        refine lv_aload_n hx hb dX0_sign_130 rfl (lv_at hl 2 rfl) ?_
        refine p_get (v := .ref q1) (C := RX7) (Tc := TX7) (N := 11) (ci := 13) hx hb hq pin_wsX70 hown hE hP hO (by rw [hf35]; decide) (rep_1 hf35) rfl 6 (by decide) (hq _ pw_180) (fun _ h9 => h9) (congrArg (fun z => some (va_rf z)) hf37) dX0_sign_131 ?_
        refine p_get (v := .int (K6.2.1 2 q1)) (C := RX7) (Tc := TX7) (N := 11) (ci := 13) hx hb hq pin_wsX70 hown hE hP hO (by rw [hf38]; decide) (rep_1 hf38) rfl 2 (by decide) (hq _ pw_82) (fun _ h9 => h9) rfl dX0_sign_134 ?_
        have hO : OKW G h0 a (upd (upd (upd (upd (upd (upd (upd (upd (upd (upd F 2 (nI sz)) 5 (nI cs)) 7 (nI hd)) 12 (nI vr)) 13 as9) 5 (nI cs8)) 13 as10) 14 wt11) 15 wf12) 2 (nI sz)) (updR (updR R 2 (.ref pq)) 3 (.ref mq)) Z B7 J K6.1 (fun q99 x99 => x99 = rep G a K6 q99) w := hO.to rfl
        obtain ⟨_, qr599, hqr600⟩ := hO.2.1 2 _ (sg_2 G h0 a _ _ _ _ _)
        refine pn_V0 (G := G) (As := [.int 11, .int (K6.2.1 2 q1)]) (rest := []) hx hb hml hown hq hE hX pX0_al hP hD hS hA hl.1 (K_fail l G h0 a (upd (upd (upd (upd (upd (upd (upd (upd (upd F 2 (nI sz)) 5 (nI cs)) 7 (nI hd)) 12 (nI vr)) 13 as9) 5 (nI cs8)) 13 as10) 14 wt11) 15 wf12) (updR (updR R 2 (.ref pq)) 3 (.ref mq)) Z B7 J K6.1 (fun q99 x99 => x99 = rep G a K6 q99) w 11 (K6.2.1 2 q1) sz (by omega) hO hl0) (gV pw_64 pw_65 pw_66 pw_59 pw_43) hV_X10_fail qr599 7 hqr600 rfl rfl rfl (Nat.le_of_ble_eq_true rfl) dX0_sign_137 ⟨(by show 0 + 1 ≤ 1; omega), (by show 0 + 6 ≤ 6; omega)⟩ ⟨(by show 6 + 1 ≤ (5 * n + 33); omega), (by show 8 + (3 + 11) + 100 ≤ (200 * n + 560); omega)⟩ (fun v598 u596 H locs hw597 hP hD hS => hw597.elim) (fun ux ce9 q9 H9 locs9 hux hP9 hD9 hS9 hce hcv hcl => pb_out ux (ThQ.up (Thx.same (Thx.f (Thx.f (Thx.f (Thx.f (Bth.thx hbb42) (by omega)) (by omega)) (by omega)) (by omega)) rfl) RhX.rfl hux) hnt hlocks hce hcv hcl hP9 hD9 hS9 (by show 0 + 1 ≤ 1; omega) (by show 0 + 6 ≤ 6; omega))
  by_cases h601 : x = 52
  · subst h601
    refine lv_tableIn (tgt := 166) (off := 156) hx hb dX0_sign_10 (by decide) (by decide) (by decide) (by decide) ?_
    refine lv_aload_n hx hb dX0_sign_166 rfl (lv_at hl 1 rfl) ?_
    refine lv_aload_n hx hb dX0_sign_167 rfl (lv_at hl 2 rfl) ?_
    refine p_get (v := .ref q1) (C := RX7) (Tc := TX7) (N := 11) (ci := 13) hx hb hq pin_wsX70 hown hE hP hO (by rw [hf35]; decide) (rep_1 hf35) rfl 6 (by decide) (hq _ pw_180) (fun _ h9 => h9) (congrArg (fun z => some (va_rf z)) hf37) dX0_sign_168 ?_
    refine lv_iload_n hx hb dX0_sign_171 rfl (lv_at hl 0 rfl) ?_
    refine lv_bipush (v := 60) hx hb dX0_sign_172 (by decide) ?_
    have hO : OKP G h0 a (upd (upd (upd (upd (upd (upd (upd (upd (upd (upd F 2 (nI sz)) 5 (nI cs)) 7 (nI hd)) 12 (nI vr)) 13 as9) 5 (nI cs8)) 13 as10) 14 wt11) 15 wf12) 2 (nI sz)) (updR (updR (updR R 2 (.ref pq)) 3 (.ref mq)) 2 (.ref pq)) Z B7 J K6 w := hO.to rfl
    obtain ⟨_, qr605, hqr606⟩ := hO.2.1 24 _ (sg_24 G h0 a _ _ _ _ _)
    refine pn_V0 (G := G) (As := [.ref q1, .int (nI t13), .int (nI 60)]) (rest := []) hx hb hml hown hq hE hX pX0_al hP hD hS hA hl.1 (Y_fit l G h0 a (upd (upd (upd (upd (upd (upd (upd (upd (upd F 2 (nI sz)) 5 (nI cs)) 7 (nI hd)) 12 (nI vr)) 13 as9) 5 (nI cs8)) 13 as10) 14 wt11) 15 wf12) (updR (updR R 2 (.ref pq)) 3 (.ref mq)) Z B7 J K6 w pq dr ml nd q1 sz t13 60 g pb (by omega) (BdE.pt hbe41 hwp hps).1 (BdE.pt hbe41 hwp hps).2.1 hf38 (by omega) hna.1.1 (NaB.be hbe41 hbf48 hwp hps.2.1 hdr0 (hbr49 11 (by decide)) hna).1.2.2 hO hl0) (gV pw_176 pw_177 pw_178 pw_63 pw_114) hV_X0_fit qr605 0 hqr606 rfl rfl rfl (Nat.le_of_ble_eq_true rfl) dX0_sign_174 ⟨(by show 0 + 1 ≤ 1; omega), (by show 0 + 6 ≤ 6; omega)⟩ ⟨(by show 7 + 1 ≤ (5 * n + 33); omega), (by show 8 + (4 + 11) + 122 ≤ (200 * n + 560); omega)⟩ (fun v604 u602 H locs hw603 hP hD hS => ?_) (fun ux ce9 q9 H9 locs9 hux hP9 hD9 hS9 hce hcv hcl => pb_out ux (ThQ.up (Thx.same (Thx.f (Thx.f (Thx.f (Thx.f (Bth.thx hbb42) (by omega)) (by omega)) (by omega)) (by omega)) rfl) (show RhX (updR (updR R 2 (.ref pq)) 3 (.ref mq)) (updR (updR (updR R 2 (.ref pq)) 3 (.ref mq)) 2 (.ref pq)) from fun k9 hk9 => by unfold updR; simp only [show ¬ k9 = 1 by omega, show ¬ k9 = 2 by omega, show ¬ k9 = 3 by omega, show ¬ k9 = 4 by omega, if_false]) hux) hnt hlocks hce hcv hcl hP9 hD9 hS9 (by show 0 + 1 ≤ 1; omega) (by show 0 + 6 ≤ 6; omega))
    obtain ⟨w, _⟩ := u602
    obtain ⟨hw603, h607, hO⟩ := hw603
    have h607 : FtQ pb t13 60 := h607
    obtain rfl : v604 = none := hw603
    have hO : OKP G h0 a (upd (upd (upd (upd (upd (upd (upd F 2 (nI sz)) 5 (nI cs8)) 7 (nI hd)) 12 (nI vr)) 13 as10) 14 wt11) 15 wf12) (updR (updR R 2 (.ref pq)) 3 (.ref mq)) Z B7 J K6 w := hO.to rfl
    refine W.widen (k := 0) (n := 0) (by show 0 + 0 ≤ 0; omega) (by show 0 + 0 ≤ 0; omega) ?_
    refine W.eq (g2 := F0 m 177 ls []) rfl ?_
    refine lv_aload_n hx hb dX0_sign_177 rfl (lv_at hl 1 rfl) ?_
    refine lv_aload_n hx hb dX0_sign_178 rfl (lv_at hl 2 rfl) ?_
    refine p_get (v := .ref q2) (C := RX7) (Tc := TX7) (N := 11) (ci := 13) hx hb hq pin_wsX70 hown hE hP hO (by rw [hf35]; decide) (rep_1 hf35) rfl 7 (by decide) (hq _ pw_169) (fun _ h9 => h9) (congrArg (fun z => some (va_rf z)) hf39) dX0_sign_179 ?_
    refine lv_aload_n hx hb dX0_sign_182 rfl (lv_at hl 1 rfl) ?_
    refine lv_aload_n hx hb dX0_sign_183 rfl (lv_at hl 2 rfl) ?_
    refine p_get (v := .ref q2) (C := RX7) (Tc := TX7) (N := 11) (ci := 13) hx hb hq pin_wsX70 hown hE hP hO (by rw [hf35]; decide) (rep_1 hf35) rfl 7 (by decide) (hq _ pw_169) (fun _ h9 => h9) (congrArg (fun z => some (va_rf z)) hf39) dX0_sign_184 ?_
    have hO : OKP G h0 a (upd (upd (upd (upd (upd (upd (upd (upd (upd (upd (upd (upd (upd (upd F 2 (nI sz)) 5 (nI cs)) 7 (nI hd)) 12 (nI vr)) 13 as9) 5 (nI cs8)) 13 as10) 14 wt11) 15 wf12) 2 (nI sz)) 5 (nI cs8)) 7 (nI hd)) 12 (nI vr)) 13 as10) (updR (updR (updR (updR R 2 (.ref pq)) 3 (.ref mq)) 2 (.ref pq)) 3 (.ref mq)) Z B7 J K6 w := hO.to rfl
    obtain ⟨_, qr611, hqr612⟩ := hO.2.1 24 _ (sg_24 G h0 a _ _ _ _ _)
    refine pn_V0 (G := G) (As := [.ref q2]) (rest := [.ref q2, .ref (a 4)]) hx hb hml hown hq hE hX pX0_al hP hD hS hA hl.1 ((ihv (by omega)) h0 a (upd (upd (upd (upd (upd (upd (upd (upd (upd F 2 (nI sz)) 5 (nI cs)) 7 (nI hd)) 12 (nI vr)) 13 as9) 5 (nI cs8)) 13 as10) 14 wt11) 15 wf12) (updR (updR R 2 (.ref pq)) 3 (.ref mq)) Z B7 J K6 w pq dr ml nd nm cp it s9 q2 mq cs8 vr sz g rk pb Ag14 pd sl (u15 :: os) m9 sn lo hd c0 as10 (okA ∧ ¬ t13 = 63) (by omega) (BdE.wp hbe41 hwp) (BdE.pt hbe41 hwp hps) (BdE.rko hbe41 hrk) (by omega) (by omega) hng43 hf36 hf40 ⟨hv1.1, (by have z9 := hv1; omega)⟩ (EkA.be hbe41 (hbr49 7 (by decide)) (hbr49 11 (by decide)) hek) (OwC.be hbe41 hmq hdr0 hcO) (NaB.be hbe41 hbf48 hwp hps.2.1 hdr0 (hbr49 11 (by decide)) hna) (EnV.of (hbr49 26 (by decide)) (hbr49 27 (by decide)) hen) (fun z => (hev53 z).1) (by omega) (by show os.length + 1 + ndE g q2 ≤ 248; omega) hlf1 hO hl0) (gV pw_173 pw_174 pw_175 pw_63 pw_224) hV_X0_value qr611 0 hqr612 rfl rfl rfl (Nat.le_of_ble_eq_true rfl) dX0_sign_187 ⟨(by show 0 + 1 ≤ 1; omega), (by show 0 + 6 ≤ 6; omega)⟩ ⟨(by show (5 * (n - 1) + 34) + 1 ≤ (5 * n + 33); omega), (by show 8 + (3 + 11) + (200 * (n - 1) + 600) ≤ (200 * n + 560); omega)⟩ (fun v610 u608 H locs hw609 hP hD hS => ?_) (fun ux ce9 q9 H9 locs9 hux hP9 hD9 hS9 hce hcv hcl => pb_out ux (ThQ.up (Thx.same (Thx.same (Thx.same (Thx.same (Thx.same (Thx.f (Thx.f (Thx.f (Thx.f (Bth.thx hbb42) (by omega)) (by omega)) (by omega)) (by omega)) rfl) rfl) rfl) rfl) rfl) (show RhX (updR (updR R 2 (.ref pq)) 3 (.ref mq)) (updR (updR (updR (updR R 2 (.ref pq)) 3 (.ref mq)) 2 (.ref pq)) 3 (.ref mq)) from fun k9 hk9 => by unfold updR; simp only [show ¬ k9 = 1 by omega, show ¬ k9 = 2 by omega, show ¬ k9 = 3 by omega, show ¬ k9 = 4 by omega, if_false]) hux) hnt hlocks hce hcv hcl hP9 hD9 hS9 (by show 0 + 1 ≤ 1; omega) (by show 0 + 6 ≤ 6; omega))
    obtain ⟨w, K613, B614, cs615, as616, wt617, wf618, t619, Ag620, u621⟩ := u608
    obtain ⟨hw609, h622, h623, h624, h625, h626, h627, h628, h629, h630, h631, h632, h633, hO⟩ := hw609
    have h622 : SmW B7 B614 cs8 := h622
    have h623 : BdE K6 K613 := h623
    have h624 : BeF K6 K613 := h624
    have h625 : BeL K6 K613 none := h625
    have h626 : BeI K6 K613 g q2 := h626
    have h627 : Bth B7 B614 := h627
    have h628 : BeR B7 B614 := h628
    have h629 : t619 < 128 := h629
    have h630 : cs8 ≤ cs615 ∧ cs615 + 0 ≤ cs8 + 2 * tlE g q2 := h630
    have h631 : AsE as10 as616 ∧ AsE as10 wt617 ∧ AsE as10 wf618 := h631
    have h632 : (okA ∧ ¬ t13 = 63) → VaQ pb B7 B614 Ag14 Ag620 pd m9 sn lo cs8 cs615 as10 as616 wt617 wf618 hd sl (u15 :: os) t619 u621 (K6.2.1 0 q2) := h632
    have h633 : CaK (K6.2.1 0 q2) → cs615 + 2 ≤ cs8 + 2 * tlE g q2 := h633
    obtain rfl : v610 = some (.int (nI t619)) := hw609
    have hf634 : K613.1 pq = 7 := (BdE.T h623 hf28 (by decide))
    have hf635 : K613.2.2.1 18 pq = some (a 1) := (BdE.C h623 (by rw [hf28]; decide) 18).trans hf29
    have hf636 : K613.2.2.1 14 pq = some dr := (BdE.C h623 (by rw [hf28]; decide) 14).trans hf30
    have hf637 : K613.1 dr = 8 := (BdE.T h623 hf31 (by decide))
    have hf638 : K613.2.2.1 15 pq = some ml := (BdE.C h623 (by rw [hf28]; decide) 15).trans hf32
    have hf639 : K613.1 ml = 5 := (BdE.T h623 hf33 (by decide))
    have hf640 : K613.2.1 24 pq = (nI nd) := (BdE.I h623 (by rw [hf28]; decide) (by decide) (by decide)).trans hf34
    have hf641 : K613.1 q = 1 := (BdE.T h623 hf35 (by decide))
    have hf642 : K613.1 mq = 3 := (BdE.T h623 hf36 (by decide))
    have hf643 : K613.2.2.1 0 q = some q1 := (BdE.C h623 (by rw [hf35]; decide) 0).trans hf37
    have hf644 : K613.1 q1 = 1 := (BdE.T h623 hf38 (by decide))
    have hf645 : K613.2.2.1 1 q = some q2 := (BdE.C h623 (by rw [hf35]; decide) 1).trans hf39
    have hf646 : K613.1 q2 = 1 := (BdE.T h623 hf40 (by decide))
    have hO : OKP G h0 a (upd (upd (upd (upd (upd (upd (upd F 2 (nI sz)) 5 (nI cs615)) 7 (nI hd)) 12 (nI vr)) 13 as616) 14 wt617) 15 wf618) (updR (updR R 2 (.ref pq)) 3 (.ref mq)) Z B614 J K613 w := hO.to rfl
    refine W.widen (k := 0) (n := 0) (by show 0 + 0 ≤ 0; omega) (by show 0 + 0 ≤ 0; omega) ?_
    refine W.eq (g2 := F0 m 190 ls [.int (nI t619), .ref q2, .ref (a 4)]) rfl ?_
    have hbe647 := BdE.trans hbe41 h623
    have hbb648 : Bth B B614 := Bth.trans (show Thx (upd (upd (upd (upd (upd F 2 (nI sz)) 5 (nI cs)) 7 (nI hd)) 12 (nI vr)) 13 as9) (upd (upd (upd (upd (upd (upd (upd (upd (upd F 2 (nI sz)) 5 (nI cs)) 7 (nI hd)) 12 (nI vr)) 13 as9) 5 (nI cs8)) 13 as10) 14 wt11) 15 wf12) B B7 from (Thx.f (Thx.f (Thx.f (Thx.f (Bth.thx hbb42) (by omega)) (by omega)) (by omega)) (by omega))).2 h627
    have hng649 : Nng (B614 18) := h627.2 hng43
    have hsw650 : ∀ x9 : Nat, x9 < cs → (B614 16) x9 = B 16 x9 := fun x9 hx9 => ((h622 x9 (by omega)).1).trans (hsw44 x9 hx9)
    have hsw651 : ∀ x9 : Nat, x9 < cs → (B614 17) x9 = B 17 x9 := fun x9 hx9 => ((h622 x9 (by omega)).2.1).trans (hsw45 x9 hx9)
    have hsw652 : ∀ x9 : Nat, x9 < cs → (B614 18) x9 = B 18 x9 := fun x9 hx9 => ((h622 x9 (by omega)).2.2.1).trans (hsw46 x9 hx9)
    have hsw653 : ∀ x9 : Nat, x9 < cs → (B614 19) x9 = B 19 x9 := fun x9 hx9 => ((h622 x9 (by omega)).2.2.2).trans (hsw47 x9 hx9)
    have hbf654 := BeF.trans hbf48 h624 hbe41
    have hbl657 := BeL.trans hbl51 h625 hbe41
    have hbi658 := BeI.trans hbi52 h626 hbe41 hin1
    have hbr655 : BeR B B614 := BeR.trans hbr49 h628
    have hpt656 : ((okA ∧ ¬ t13 = 63) ∧ ¬ t619 = 63) → EvQ pb.1 pb.2.1 pb.2.2.1 pb.2.2.2 (B 16) (B 17) (B 18) (B 19) (B614 16) (B614 17) (B614 18) (B614 19) Ag Ag620 pd m9 sn lo cs cs615 as9 as616 hd sl (u621 :: (u15 :: os)) ∧ UTb u621 (nI t619) as616 wt617 wf618 := fun z => VaQ.part (B1 := B7) (hev53 z.1) (h632 z.1) h629 z.2
    have hev659 := fun z => (hpt656 z).1
    have has660 : AsE as9 as616 ∧ AsE as9 wt617 ∧ AsE as9 wf618 := ⟨AsE.trans has54.1 h631.1, AsE.trans has54.1 h631.2.1, AsE.trans has54.1 h631.2.2⟩
    refine lv_bipush (v := 60) hx hb dX0_sign_190 (by decide) ?_
    have hO : OKP G h0 a (upd (upd (upd (upd (upd (upd (upd (upd (upd (upd F 2 (nI sz)) 5 (nI cs)) 7 (nI hd)) 12 (nI vr)) 13 as9) 5 (nI cs615)) 13 as616) 14 wt617) 15 wf618) 2 (nI sz)) (updR (updR (updR R 2 (.ref pq)) 3 (.ref mq)) 2 (.ref pq)) Z B614 J K613 w := hO.to rfl
    obtain ⟨_, qr664, hqr665⟩ := hO.2.1 24 _ (sg_24 G h0 a _ _ _ _ _)
    refine pn_V0 (G := G) (As := [.ref q2, .int (nI t619), .int (nI 60)]) (rest := []) hx hb hml hown hq hE hX pX0_al hP hD hS hA hl.1 (Y_fit l G h0 a (upd (upd (upd (upd (upd (upd (upd (upd (upd F 2 (nI sz)) 5 (nI cs)) 7 (nI hd)) 12 (nI vr)) 13 as9) 5 (nI cs615)) 13 as616) 14 wt617) 15 wf618) (updR (updR R 2 (.ref pq)) 3 (.ref mq)) Z B614 J K613 w pq dr ml nd q2 sz t619 60 g pb (by omega) (BdE.pt hbe647 hwp hps).1 (BdE.pt hbe647 hwp hps).2.1 hf646 (by omega) hna.1.1 (NaB.be hbe647 hbf654 hwp hps.2.1 hdr0 (hbr655 11 (by decide)) hna).1.2.2 hO hl0) (gV pw_176 pw_177 pw_178 pw_63 pw_114) hV_X0_fit qr664 0 hqr665 rfl rfl rfl (Nat.le_of_ble_eq_true rfl) dX0_sign_192 ⟨(by show 0 + 1 ≤ 1; omega), (by show 0 + 6 ≤ 6; omega)⟩ ⟨(by show 7 + 1 ≤ (5 * n + 33); omega), (by show 8 + (4 + 11) + 122 ≤ (200 * n + 560); omega)⟩ (fun v663 u661 H locs hw662 hP hD hS => ?_) (fun ux ce9 q9 H9 locs9 hux hP9 hD9 hS9 hce hcv hcl => pb_out ux (ThQ.up (Thx.same (Thx.f (Thx.f (Thx.f (Thx.f (Bth.thx hbb648) (by omega)) (by omega)) (by omega)) (by omega)) rfl) (show RhX (updR (updR R 2 (.ref pq)) 3 (.ref mq)) (updR (updR (updR R 2 (.ref pq)) 3 (.ref mq)) 2 (.ref pq)) from fun k9 hk9 => by unfold updR; simp only [show ¬ k9 = 1 by omega, show ¬ k9 = 2 by omega, show ¬ k9 = 3 by omega, show ¬ k9 = 4 by omega, if_false]) hux) hnt hlocks hce hcv hcl hP9 hD9 hS9 (by show 0 + 1 ≤ 1; omega) (by show 0 + 6 ≤ 6; omega))
    obtain ⟨w, _⟩ := u661
    obtain ⟨hw662, h666, hO⟩ := hw662
    have h666 : FtQ pb t619 60 := h666
    obtain rfl : v663 = none := hw662
    have hO : OKP G h0 a (upd (upd (upd (upd (upd (upd (upd F 2 (nI sz)) 5 (nI cs615)) 7 (nI hd)) 12 (nI vr)) 13 as616) 14 wt617) 15 wf618) (updR (updR R 2 (.ref pq)) 3 (.ref mq)) Z B614 J K613 w := hO.to rfl
    refine W.widen (k := 0) (n := 0) (by show 0 + 0 ≤ 0; omega) (by show 0 + 0 ≤ 0; omega) ?_
    refine W.eq (g2 := F0 m 195 ls []) rfl ?_
    refine lv_iload_n hx hb dX0_sign_195 rfl (lv_at hl 3 rfl) ?_
    refine lv_bipush (v := 54) hx hb dX0_sign_196 (by decide) ?_
    refine lv_icmp_lt (tgt := 211) hx hb dX0_sign_198 (by decide) (fun c667 => ?_) (fun c667 => absurd c667 (by decide))
    refine lv_iconst (v := 0) hx hb dX0_sign_211 (by decide) ?_
    refine lv_istore (lv' := [(4, .int 0), (3, .int (nI t13)), (0, .ref (a 4)), (1, .ref q), (2, .int 52)]) hx hb dX0_sign_212 hl (by decide) rfl (fun ls hl => ?_)
    refine lv_aload_n hx hb dX0_sign_214 rfl (lv_at hl 2 rfl) ?_
    refine lv_bipush (v := 10) hx hb dX0_sign_215 (by decide) ?_
    refine lv_iload_n hx hb dX0_sign_217 rfl (lv_at hl 4 rfl) ?_
    refine lv_iload hx hb dX0_sign_218 (lv_at hl 0 rfl) ?_
    refine lv_if_eq (tgt := 228) hx hb dX0_sign_220 (by decide) (fun c668 => ?_) (fun c668 => absurd c668 (by decide))
    refine lv_bipush (v := 60) hx hb dX0_sign_228 (by decide) ?_
    have hut669 := fun z : okA => (hpt50 ⟨z, h607.1⟩).2
    have hut670 := fun z : okA => (hpt656 ⟨⟨z, h607.1⟩, h666.1⟩).2
    have hev671 := fun z : okA => hev659 ⟨⟨z, h607.1⟩, h666.1⟩
    have hfb := h666
    have hO : OKW G h0 a (upd (upd (upd (upd (upd (upd (upd (upd (upd F 2 (nI sz)) 5 (nI cs615)) 7 (nI hd)) 12 (nI vr)) 13 as616) 14 wt617) 15 wf618) 5 (nI cs615)) 7 (nI hd)) (updR (updR R 2 (.ref pq)) 3 (.ref mq)) Z B614 J K613.1 (fun q99 x99 => x99 = rep G a K613 q99) w := hO.to rfl
    obtain ⟨_, qr675, hqr676⟩ := hO.2.1 24 _ (sg_24 G h0 a _ _ _ _ _)
    refine pc_V0 (G := G) (As := [.int 10, .int 52, .int 60]) (rest := []) hx hb hml hown hq hE hX pX0_al hP hD hS hA hl.1 (Y_give l G h0 a (upd (upd (upd (upd (upd (upd (upd F 2 (nI sz)) 5 (nI cs615)) 7 (nI hd)) 12 (nI vr)) 13 as616) 14 wt617) 15 wf618) (updR (updR R 2 (.ref pq)) 3 (.ref mq)) Z B614 J K613.1 (fun q99 x99 => x99 = rep G a K613 q99) w 10 52 60 cs615 hd (by omega) hO) (gV pw_158 pw_159 pw_160 pw_63 pw_128) hV_X0_give qr675 0 hqr676 rfl rfl rfl (Nat.le_of_ble_eq_true rfl) dX0_sign_230 ⟨(by show 0 + 0 ≤ 1; omega), (by show 0 + 0 ≤ 6; omega)⟩ ⟨(by show 3 + 1 ≤ (5 * n + 33); omega), (by show 8 + (4 + 11) + 83 ≤ (200 * n + 560); omega)⟩ (fun v674 u672 H locs hw673 hP hD hS => ?_)
    obtain ⟨w, _⟩ := u672
    obtain ⟨hw673, hO⟩ := hw673
    obtain rfl : v674 = some (.int 60) := hw673
    have hO : OKP G h0 a (upd (upd (upd (upd (upd (upd (upd F 2 (nI sz)) 5 (nI (cs615 + 1))) 7 (nI hd)) 12 (nI vr)) 13 as616) 14 wt617) 15 wf618) (updR (updR R 2 (.ref pq)) 3 (.ref mq)) Z (updA (updA (updA (updA B614 16 (upd ((B614 16)) cs615 10)) 17 (upd ((B614 17)) cs615 52)) 18 (upd ((B614 18)) cs615 0)) 19 (upd ((B614 19)) cs615 (nI hd))) J K613 w := hO.to rfl
    refine W.widen (k := 0) (n := 0) (Nat.le_of_ble_eq_true rfl) (Nat.le_of_ble_eq_true rfl) ?_
    refine W.eq (g2 := F0 m 233 ls [.int 60]) rfl ?_
    have hsw677 : ∀ x9 : Nat, x9 < cs → (upd ((B614 16)) cs615 10) x9 = B 16 x9 := fun x9 hx9 => (if_neg (by omega)).trans (hsw650 x9 hx9)
    have hsw678 : ∀ x9 : Nat, x9 < cs → (upd ((B614 17)) cs615 52) x9 = B 17 x9 := fun x9 hx9 => (if_neg (by omega)).trans (hsw651 x9 hx9)
    have hsw679 : ∀ x9 : Nat, x9 < cs → (upd ((B614 18)) cs615 0) x9 = B 18 x9 := fun x9 hx9 => (if_neg (by omega)).trans (hsw652 x9 hx9)
    have hsw680 : ∀ x9 : Nat, x9 < cs → (upd ((B614 19)) cs615 (nI hd)) x9 = B 19 x9 := fun x9 hx9 => (if_neg (by omega)).trans (hsw653 x9 hx9)
    obtain ⟨Ag681, hev682⟩ : ∃ A5 : Nat → AS, okA → EvQ pb.1 pb.2.1 pb.2.2.1 pb.2.2.2 (B 16) (B 17) (B 18) (B 19) (upd ((B614 16)) cs615 10) (upd ((B614 17)) cs615 52) (upd ((B614 18)) cs615 0) (upd ((B614 19)) cs615 (nI hd)) Ag A5 pd m9 sn lo cs (cs615 + 1) as9 as616 hd sl (60 :: os) := ⟨(upS Ag620 (cs615 + 1) (rcA as616, hd, sl, (60 :: os))), fun z => (hev671 z).trans (EmS.sign (hev671 z).1 (by show os.length + 1 + 1 ≤ 248; omega) (SgT.num hsk (by decide)))⟩
    have hng9 : Nng (upd ((B614 18)) cs615 0) := Nng.set hng649 (k := 0) (by omega)
    have hng683 := hng9
    refine W_size (fun hz1 hz2 => ?_)
    refine vx_ret ?_
    have hz684 : SmW B (updA (updA (updA (updA B614 16 (upd ((B614 16)) cs615 10)) 17 (upd ((B614 17)) cs615 52)) 18 (upd ((B614 18)) cs615 0)) 19 (upd ((B614 19)) cs615 (nI hd))) cs := (fun x9 hx9 => ⟨hsw677 x9 hx9, hsw678 x9 hx9, hsw679 x9 hx9, hsw680 x9 hx9⟩)
    have hz685 : BdE K K613 := hbe647
    have hz686 : BeF K K613 := hbf654
    have hz687 : BeL K K613 none := hbl657
    have hz688 : BeI K K613 g q := hbi658
    have hz689 : Bth B (updA (updA (updA (updA B614 16 (upd ((B614 16)) cs615 10)) 17 (upd ((B614 17)) cs615 52)) 18 (upd ((B614 18)) cs615 0)) 19 (upd ((B614 19)) cs615 (nI hd))) := (show Thx (upd (upd (upd (upd (upd F 2 (nI sz)) 5 (nI cs)) 7 (nI hd)) 12 (nI vr)) 13 as9) (upd (upd (upd (upd (upd (upd (upd (upd (upd F 2 (nI sz)) 5 (nI cs)) 7 (nI hd)) 12 (nI vr)) 13 as9) 5 (nI (cs615 + 1))) 13 as616) 14 wt617) 15 wf618) B (updA (updA (updA (updA B614 16 (upd ((B614 16)) cs615 10)) 17 (upd ((B614 17)) cs615 52)) 18 (upd ((B614 18)) cs615 0)) 19 (upd ((B614 19)) cs615 (nI hd))) from (Thx.b (Thx.b8 (Thx.b (Thx.b (Thx.f (Thx.f (Thx.f (Thx.f (Bth.thx hbb648) (by omega)) (by omega)) (by omega)) (by omega)) (by omega) (by decide)) (by omega) (by decide)) hng683) (by omega) (by decide))).2
    have hz690 : BeR B (updA (updA (updA (updA B614 16 (upd ((B614 16)) cs615 10)) 17 (upd ((B614 17)) cs615 52)) 18 (upd ((B614 18)) cs615 0)) 19 (upd ((B614 19)) cs615 (nI hd))) := (BeR.up (k := 19) (f := (upd ((B614 19)) cs615 (nI hd))) (BeR.up (k := 18) (f := (upd ((B614 18)) cs615 0)) (BeR.up (k := 17) (f := (upd ((B614 17)) cs615 52)) (BeR.up (k := 16) (f := (upd ((B614 16)) cs615 10)) hbr655 (by omega)) (by omega)) (by omega)) (by omega))
    have hz691 : 60 < 128 := (by omega)
    have hz692 : cs ≤ (cs615 + 1) ∧ (cs615 + 1) + 0 ≤ cs + 2 * tlE g q := (by omega)
    have hz693 : AsE as9 as616 := has660.1
    have hz694 : okA → PlQ pb B (updA (updA (updA (updA B614 16 (upd ((B614 16)) cs615 10)) 17 (upd ((B614 17)) cs615 52)) 18 (upd ((B614 18)) cs615 0)) 19 (upd ((B614 19)) cs615 (nI hd))) Ag Ag681 pd m9 sn lo cs (cs615 + 1) as9 as616 hd sl os 60 (K.2.1 0 q) := (fun z => Or.inr ⟨by rw [rsO_ne (by omega)]; exact hev682 z, by omega⟩)
    have hO : OKP G h0 a (upd (upd (upd (upd (upd (upd (upd F 2 (nI sz)) 5 (nI (cs615 + 1))) 7 (nI hd)) 12 (nI vr)) 13 as616) 14 wt617) 15 wf618) (updR (updR R 2 (.ref pq)) 3 (.ref mq)) Z (updA (updA (updA (updA B614 16 (upd ((B614 16)) cs615 10)) 17 (upd ((B614 17)) cs615 52)) 18 (upd ((B614 18)) cs615 0)) 19 (upd ((B614 19)) cs615 (nI hd))) J K613 w := hO.to rfl
    refine W.widen (k := 1) (n := 6) (by omega) (by omega) ?_
    have hzz1 : H.size ≤ s.heap.size + (0) := (by have z : 0 ≤ 0 := (by omega); omega)
    have hzz2 : hSl H ≤ hSl s.heap + (0) := (by have z : 0 ≤ 0 := (by omega); omega)
    exact W.iret (v := 60) hx hb hr (fun t99 ht99 hW99 => ⟨⟨_, (w, (K613, (updA (updA (updA (updA B614 16 (upd ((B614 16)) cs615 10)) 17 (upd ((B614 17)) cs615 52)) 18 (upd ((B614 18)) cs615 0)) 19 (upd ((B614 19)) cs615 (nI hd))), (cs615 + 1), as616, wt617, wf618, 60, Ag681)), rfl, ⟨rfl, hz684, hz685, hz686, hz687, hz688, hz689, hz690, hz691, hz692, hz693, hz694, hO⟩, by rw [ht99]; exact hP, hD, by rw [ht99]; exact hzz1, by rw [ht99]; exact hzz2⟩, hS.F ht99⟩) hS.2.2 dX0_sign_233
  by_cases h695 : x = 53
  · subst h695
    refine lv_tableIn (tgt := 166) (off := 156) hx hb dX0_sign_10 (by decide) (by decide) (by decide) (by decide) ?_
    refine lv_aload_n hx hb dX0_sign_166 rfl (lv_at hl 1 rfl) ?_
    refine lv_aload_n hx hb dX0_sign_167 rfl (lv_at hl 2 rfl) ?_
    refine p_get (v := .ref q1) (C := RX7) (Tc := TX7) (N := 11) (ci := 13) hx hb hq pin_wsX70 hown hE hP hO (by rw [hf35]; decide) (rep_1 hf35) rfl 6 (by decide) (hq _ pw_180) (fun _ h9 => h9) (congrArg (fun z => some (va_rf z)) hf37) dX0_sign_168 ?_
    refine lv_iload_n hx hb dX0_sign_171 rfl (lv_at hl 0 rfl) ?_
    refine lv_bipush (v := 60) hx hb dX0_sign_172 (by decide) ?_
    have hO : OKP G h0 a (upd (upd (upd (upd (upd (upd (upd (upd (upd (upd F 2 (nI sz)) 5 (nI cs)) 7 (nI hd)) 12 (nI vr)) 13 as9) 5 (nI cs8)) 13 as10) 14 wt11) 15 wf12) 2 (nI sz)) (updR (updR (updR R 2 (.ref pq)) 3 (.ref mq)) 2 (.ref pq)) Z B7 J K6 w := hO.to rfl
    obtain ⟨_, qr699, hqr700⟩ := hO.2.1 24 _ (sg_24 G h0 a _ _ _ _ _)
    refine pn_V0 (G := G) (As := [.ref q1, .int (nI t13), .int (nI 60)]) (rest := []) hx hb hml hown hq hE hX pX0_al hP hD hS hA hl.1 (Y_fit l G h0 a (upd (upd (upd (upd (upd (upd (upd (upd (upd F 2 (nI sz)) 5 (nI cs)) 7 (nI hd)) 12 (nI vr)) 13 as9) 5 (nI cs8)) 13 as10) 14 wt11) 15 wf12) (updR (updR R 2 (.ref pq)) 3 (.ref mq)) Z B7 J K6 w pq dr ml nd q1 sz t13 60 g pb (by omega) (BdE.pt hbe41 hwp hps).1 (BdE.pt hbe41 hwp hps).2.1 hf38 (by omega) hna.1.1 (NaB.be hbe41 hbf48 hwp hps.2.1 hdr0 (hbr49 11 (by decide)) hna).1.2.2 hO hl0) (gV pw_176 pw_177 pw_178 pw_63 pw_114) hV_X0_fit qr699 0 hqr700 rfl rfl rfl (Nat.le_of_ble_eq_true rfl) dX0_sign_174 ⟨(by show 0 + 1 ≤ 1; omega), (by show 0 + 6 ≤ 6; omega)⟩ ⟨(by show 7 + 1 ≤ (5 * n + 33); omega), (by show 8 + (4 + 11) + 122 ≤ (200 * n + 560); omega)⟩ (fun v698 u696 H locs hw697 hP hD hS => ?_) (fun ux ce9 q9 H9 locs9 hux hP9 hD9 hS9 hce hcv hcl => pb_out ux (ThQ.up (Thx.same (Thx.f (Thx.f (Thx.f (Thx.f (Bth.thx hbb42) (by omega)) (by omega)) (by omega)) (by omega)) rfl) (show RhX (updR (updR R 2 (.ref pq)) 3 (.ref mq)) (updR (updR (updR R 2 (.ref pq)) 3 (.ref mq)) 2 (.ref pq)) from fun k9 hk9 => by unfold updR; simp only [show ¬ k9 = 1 by omega, show ¬ k9 = 2 by omega, show ¬ k9 = 3 by omega, show ¬ k9 = 4 by omega, if_false]) hux) hnt hlocks hce hcv hcl hP9 hD9 hS9 (by show 0 + 1 ≤ 1; omega) (by show 0 + 6 ≤ 6; omega))
    obtain ⟨w, _⟩ := u696
    obtain ⟨hw697, h701, hO⟩ := hw697
    have h701 : FtQ pb t13 60 := h701
    obtain rfl : v698 = none := hw697
    have hO : OKP G h0 a (upd (upd (upd (upd (upd (upd (upd F 2 (nI sz)) 5 (nI cs8)) 7 (nI hd)) 12 (nI vr)) 13 as10) 14 wt11) 15 wf12) (updR (updR R 2 (.ref pq)) 3 (.ref mq)) Z B7 J K6 w := hO.to rfl
    refine W.widen (k := 0) (n := 0) (by show 0 + 0 ≤ 0; omega) (by show 0 + 0 ≤ 0; omega) ?_
    refine W.eq (g2 := F0 m 177 ls []) rfl ?_
    refine lv_aload_n hx hb dX0_sign_177 rfl (lv_at hl 1 rfl) ?_
    refine lv_aload_n hx hb dX0_sign_178 rfl (lv_at hl 2 rfl) ?_
    refine p_get (v := .ref q2) (C := RX7) (Tc := TX7) (N := 11) (ci := 13) hx hb hq pin_wsX70 hown hE hP hO (by rw [hf35]; decide) (rep_1 hf35) rfl 7 (by decide) (hq _ pw_169) (fun _ h9 => h9) (congrArg (fun z => some (va_rf z)) hf39) dX0_sign_179 ?_
    refine lv_aload_n hx hb dX0_sign_182 rfl (lv_at hl 1 rfl) ?_
    refine lv_aload_n hx hb dX0_sign_183 rfl (lv_at hl 2 rfl) ?_
    refine p_get (v := .ref q2) (C := RX7) (Tc := TX7) (N := 11) (ci := 13) hx hb hq pin_wsX70 hown hE hP hO (by rw [hf35]; decide) (rep_1 hf35) rfl 7 (by decide) (hq _ pw_169) (fun _ h9 => h9) (congrArg (fun z => some (va_rf z)) hf39) dX0_sign_184 ?_
    have hO : OKP G h0 a (upd (upd (upd (upd (upd (upd (upd (upd (upd (upd (upd (upd (upd (upd F 2 (nI sz)) 5 (nI cs)) 7 (nI hd)) 12 (nI vr)) 13 as9) 5 (nI cs8)) 13 as10) 14 wt11) 15 wf12) 2 (nI sz)) 5 (nI cs8)) 7 (nI hd)) 12 (nI vr)) 13 as10) (updR (updR (updR (updR R 2 (.ref pq)) 3 (.ref mq)) 2 (.ref pq)) 3 (.ref mq)) Z B7 J K6 w := hO.to rfl
    obtain ⟨_, qr705, hqr706⟩ := hO.2.1 24 _ (sg_24 G h0 a _ _ _ _ _)
    refine pn_V0 (G := G) (As := [.ref q2]) (rest := [.ref q2, .ref (a 4)]) hx hb hml hown hq hE hX pX0_al hP hD hS hA hl.1 ((ihv (by omega)) h0 a (upd (upd (upd (upd (upd (upd (upd (upd (upd F 2 (nI sz)) 5 (nI cs)) 7 (nI hd)) 12 (nI vr)) 13 as9) 5 (nI cs8)) 13 as10) 14 wt11) 15 wf12) (updR (updR R 2 (.ref pq)) 3 (.ref mq)) Z B7 J K6 w pq dr ml nd nm cp it s9 q2 mq cs8 vr sz g rk pb Ag14 pd sl (u15 :: os) m9 sn lo hd c0 as10 (okA ∧ ¬ t13 = 63) (by omega) (BdE.wp hbe41 hwp) (BdE.pt hbe41 hwp hps) (BdE.rko hbe41 hrk) (by omega) (by omega) hng43 hf36 hf40 ⟨hv1.1, (by have z9 := hv1; omega)⟩ (EkA.be hbe41 (hbr49 7 (by decide)) (hbr49 11 (by decide)) hek) (OwC.be hbe41 hmq hdr0 hcO) (NaB.be hbe41 hbf48 hwp hps.2.1 hdr0 (hbr49 11 (by decide)) hna) (EnV.of (hbr49 26 (by decide)) (hbr49 27 (by decide)) hen) (fun z => (hev53 z).1) (by omega) (by show os.length + 1 + ndE g q2 ≤ 248; omega) hlf1 hO hl0) (gV pw_173 pw_174 pw_175 pw_63 pw_224) hV_X0_value qr705 0 hqr706 rfl rfl rfl (Nat.le_of_ble_eq_true rfl) dX0_sign_187 ⟨(by show 0 + 1 ≤ 1; omega), (by show 0 + 6 ≤ 6; omega)⟩ ⟨(by show (5 * (n - 1) + 34) + 1 ≤ (5 * n + 33); omega), (by show 8 + (3 + 11) + (200 * (n - 1) + 600) ≤ (200 * n + 560); omega)⟩ (fun v704 u702 H locs hw703 hP hD hS => ?_) (fun ux ce9 q9 H9 locs9 hux hP9 hD9 hS9 hce hcv hcl => pb_out ux (ThQ.up (Thx.same (Thx.same (Thx.same (Thx.same (Thx.same (Thx.f (Thx.f (Thx.f (Thx.f (Bth.thx hbb42) (by omega)) (by omega)) (by omega)) (by omega)) rfl) rfl) rfl) rfl) rfl) (show RhX (updR (updR R 2 (.ref pq)) 3 (.ref mq)) (updR (updR (updR (updR R 2 (.ref pq)) 3 (.ref mq)) 2 (.ref pq)) 3 (.ref mq)) from fun k9 hk9 => by unfold updR; simp only [show ¬ k9 = 1 by omega, show ¬ k9 = 2 by omega, show ¬ k9 = 3 by omega, show ¬ k9 = 4 by omega, if_false]) hux) hnt hlocks hce hcv hcl hP9 hD9 hS9 (by show 0 + 1 ≤ 1; omega) (by show 0 + 6 ≤ 6; omega))
    obtain ⟨w, K707, B708, cs709, as710, wt711, wf712, t713, Ag714, u715⟩ := u702
    obtain ⟨hw703, h716, h717, h718, h719, h720, h721, h722, h723, h724, h725, h726, h727, hO⟩ := hw703
    have h716 : SmW B7 B708 cs8 := h716
    have h717 : BdE K6 K707 := h717
    have h718 : BeF K6 K707 := h718
    have h719 : BeL K6 K707 none := h719
    have h720 : BeI K6 K707 g q2 := h720
    have h721 : Bth B7 B708 := h721
    have h722 : BeR B7 B708 := h722
    have h723 : t713 < 128 := h723
    have h724 : cs8 ≤ cs709 ∧ cs709 + 0 ≤ cs8 + 2 * tlE g q2 := h724
    have h725 : AsE as10 as710 ∧ AsE as10 wt711 ∧ AsE as10 wf712 := h725
    have h726 : (okA ∧ ¬ t13 = 63) → VaQ pb B7 B708 Ag14 Ag714 pd m9 sn lo cs8 cs709 as10 as710 wt711 wf712 hd sl (u15 :: os) t713 u715 (K6.2.1 0 q2) := h726
    have h727 : CaK (K6.2.1 0 q2) → cs709 + 2 ≤ cs8 + 2 * tlE g q2 := h727
    obtain rfl : v704 = some (.int (nI t713)) := hw703
    have hf728 : K707.1 pq = 7 := (BdE.T h717 hf28 (by decide))
    have hf729 : K707.2.2.1 18 pq = some (a 1) := (BdE.C h717 (by rw [hf28]; decide) 18).trans hf29
    have hf730 : K707.2.2.1 14 pq = some dr := (BdE.C h717 (by rw [hf28]; decide) 14).trans hf30
    have hf731 : K707.1 dr = 8 := (BdE.T h717 hf31 (by decide))
    have hf732 : K707.2.2.1 15 pq = some ml := (BdE.C h717 (by rw [hf28]; decide) 15).trans hf32
    have hf733 : K707.1 ml = 5 := (BdE.T h717 hf33 (by decide))
    have hf734 : K707.2.1 24 pq = (nI nd) := (BdE.I h717 (by rw [hf28]; decide) (by decide) (by decide)).trans hf34
    have hf735 : K707.1 q = 1 := (BdE.T h717 hf35 (by decide))
    have hf736 : K707.1 mq = 3 := (BdE.T h717 hf36 (by decide))
    have hf737 : K707.2.2.1 0 q = some q1 := (BdE.C h717 (by rw [hf35]; decide) 0).trans hf37
    have hf738 : K707.1 q1 = 1 := (BdE.T h717 hf38 (by decide))
    have hf739 : K707.2.2.1 1 q = some q2 := (BdE.C h717 (by rw [hf35]; decide) 1).trans hf39
    have hf740 : K707.1 q2 = 1 := (BdE.T h717 hf40 (by decide))
    have hO : OKP G h0 a (upd (upd (upd (upd (upd (upd (upd F 2 (nI sz)) 5 (nI cs709)) 7 (nI hd)) 12 (nI vr)) 13 as710) 14 wt711) 15 wf712) (updR (updR R 2 (.ref pq)) 3 (.ref mq)) Z B708 J K707 w := hO.to rfl
    refine W.widen (k := 0) (n := 0) (by show 0 + 0 ≤ 0; omega) (by show 0 + 0 ≤ 0; omega) ?_
    refine W.eq (g2 := F0 m 190 ls [.int (nI t713), .ref q2, .ref (a 4)]) rfl ?_
    have hbe741 := BdE.trans hbe41 h717
    have hbb742 : Bth B B708 := Bth.trans (show Thx (upd (upd (upd (upd (upd F 2 (nI sz)) 5 (nI cs)) 7 (nI hd)) 12 (nI vr)) 13 as9) (upd (upd (upd (upd (upd (upd (upd (upd (upd F 2 (nI sz)) 5 (nI cs)) 7 (nI hd)) 12 (nI vr)) 13 as9) 5 (nI cs8)) 13 as10) 14 wt11) 15 wf12) B B7 from (Thx.f (Thx.f (Thx.f (Thx.f (Bth.thx hbb42) (by omega)) (by omega)) (by omega)) (by omega))).2 h721
    have hng743 : Nng (B708 18) := h721.2 hng43
    have hsw744 : ∀ x9 : Nat, x9 < cs → (B708 16) x9 = B 16 x9 := fun x9 hx9 => ((h716 x9 (by omega)).1).trans (hsw44 x9 hx9)
    have hsw745 : ∀ x9 : Nat, x9 < cs → (B708 17) x9 = B 17 x9 := fun x9 hx9 => ((h716 x9 (by omega)).2.1).trans (hsw45 x9 hx9)
    have hsw746 : ∀ x9 : Nat, x9 < cs → (B708 18) x9 = B 18 x9 := fun x9 hx9 => ((h716 x9 (by omega)).2.2.1).trans (hsw46 x9 hx9)
    have hsw747 : ∀ x9 : Nat, x9 < cs → (B708 19) x9 = B 19 x9 := fun x9 hx9 => ((h716 x9 (by omega)).2.2.2).trans (hsw47 x9 hx9)
    have hbf748 := BeF.trans hbf48 h718 hbe41
    have hbl751 := BeL.trans hbl51 h719 hbe41
    have hbi752 := BeI.trans hbi52 h720 hbe41 hin1
    have hbr749 : BeR B B708 := BeR.trans hbr49 h722
    have hpt750 : ((okA ∧ ¬ t13 = 63) ∧ ¬ t713 = 63) → EvQ pb.1 pb.2.1 pb.2.2.1 pb.2.2.2 (B 16) (B 17) (B 18) (B 19) (B708 16) (B708 17) (B708 18) (B708 19) Ag Ag714 pd m9 sn lo cs cs709 as9 as710 hd sl (u715 :: (u15 :: os)) ∧ UTb u715 (nI t713) as710 wt711 wf712 := fun z => VaQ.part (B1 := B7) (hev53 z.1) (h726 z.1) h723 z.2
    have hev753 := fun z => (hpt750 z).1
    have has754 : AsE as9 as710 ∧ AsE as9 wt711 ∧ AsE as9 wf712 := ⟨AsE.trans has54.1 h725.1, AsE.trans has54.1 h725.2.1, AsE.trans has54.1 h725.2.2⟩
    refine lv_bipush (v := 60) hx hb dX0_sign_190 (by decide) ?_
    have hO : OKP G h0 a (upd (upd (upd (upd (upd (upd (upd (upd (upd (upd F 2 (nI sz)) 5 (nI cs)) 7 (nI hd)) 12 (nI vr)) 13 as9) 5 (nI cs709)) 13 as710) 14 wt711) 15 wf712) 2 (nI sz)) (updR (updR (updR R 2 (.ref pq)) 3 (.ref mq)) 2 (.ref pq)) Z B708 J K707 w := hO.to rfl
    obtain ⟨_, qr758, hqr759⟩ := hO.2.1 24 _ (sg_24 G h0 a _ _ _ _ _)
    refine pn_V0 (G := G) (As := [.ref q2, .int (nI t713), .int (nI 60)]) (rest := []) hx hb hml hown hq hE hX pX0_al hP hD hS hA hl.1 (Y_fit l G h0 a (upd (upd (upd (upd (upd (upd (upd (upd (upd F 2 (nI sz)) 5 (nI cs)) 7 (nI hd)) 12 (nI vr)) 13 as9) 5 (nI cs709)) 13 as710) 14 wt711) 15 wf712) (updR (updR R 2 (.ref pq)) 3 (.ref mq)) Z B708 J K707 w pq dr ml nd q2 sz t713 60 g pb (by omega) (BdE.pt hbe741 hwp hps).1 (BdE.pt hbe741 hwp hps).2.1 hf740 (by omega) hna.1.1 (NaB.be hbe741 hbf748 hwp hps.2.1 hdr0 (hbr749 11 (by decide)) hna).1.2.2 hO hl0) (gV pw_176 pw_177 pw_178 pw_63 pw_114) hV_X0_fit qr758 0 hqr759 rfl rfl rfl (Nat.le_of_ble_eq_true rfl) dX0_sign_192 ⟨(by show 0 + 1 ≤ 1; omega), (by show 0 + 6 ≤ 6; omega)⟩ ⟨(by show 7 + 1 ≤ (5 * n + 33); omega), (by show 8 + (4 + 11) + 122 ≤ (200 * n + 560); omega)⟩ (fun v757 u755 H locs hw756 hP hD hS => ?_) (fun ux ce9 q9 H9 locs9 hux hP9 hD9 hS9 hce hcv hcl => pb_out ux (ThQ.up (Thx.same (Thx.f (Thx.f (Thx.f (Thx.f (Bth.thx hbb742) (by omega)) (by omega)) (by omega)) (by omega)) rfl) (show RhX (updR (updR R 2 (.ref pq)) 3 (.ref mq)) (updR (updR (updR R 2 (.ref pq)) 3 (.ref mq)) 2 (.ref pq)) from fun k9 hk9 => by unfold updR; simp only [show ¬ k9 = 1 by omega, show ¬ k9 = 2 by omega, show ¬ k9 = 3 by omega, show ¬ k9 = 4 by omega, if_false]) hux) hnt hlocks hce hcv hcl hP9 hD9 hS9 (by show 0 + 1 ≤ 1; omega) (by show 0 + 6 ≤ 6; omega))
    obtain ⟨w, _⟩ := u755
    obtain ⟨hw756, h760, hO⟩ := hw756
    have h760 : FtQ pb t713 60 := h760
    obtain rfl : v757 = none := hw756
    have hO : OKP G h0 a (upd (upd (upd (upd (upd (upd (upd F 2 (nI sz)) 5 (nI cs709)) 7 (nI hd)) 12 (nI vr)) 13 as710) 14 wt711) 15 wf712) (updR (updR R 2 (.ref pq)) 3 (.ref mq)) Z B708 J K707 w := hO.to rfl
    refine W.widen (k := 0) (n := 0) (by show 0 + 0 ≤ 0; omega) (by show 0 + 0 ≤ 0; omega) ?_
    refine W.eq (g2 := F0 m 195 ls []) rfl ?_
    refine lv_iload_n hx hb dX0_sign_195 rfl (lv_at hl 3 rfl) ?_
    refine lv_bipush (v := 54) hx hb dX0_sign_196 (by decide) ?_
    refine lv_icmp_lt (tgt := 211) hx hb dX0_sign_198 (by decide) (fun c761 => ?_) (fun c761 => absurd c761 (by decide))
    refine lv_iconst (v := 0) hx hb dX0_sign_211 (by decide) ?_
    refine lv_istore (lv' := [(4, .int 0), (3, .int (nI t13)), (0, .ref (a 4)), (1, .ref q), (2, .int 53)]) hx hb dX0_sign_212 hl (by decide) rfl (fun ls hl => ?_)
    refine lv_aload_n hx hb dX0_sign_214 rfl (lv_at hl 2 rfl) ?_
    refine lv_bipush (v := 10) hx hb dX0_sign_215 (by decide) ?_
    refine lv_iload_n hx hb dX0_sign_217 rfl (lv_at hl 4 rfl) ?_
    refine lv_iload hx hb dX0_sign_218 (lv_at hl 0 rfl) ?_
    refine lv_if_eq (tgt := 228) hx hb dX0_sign_220 (by decide) (fun c762 => ?_) (fun c762 => absurd c762 (by decide))
    refine lv_bipush (v := 60) hx hb dX0_sign_228 (by decide) ?_
    have hut763 := fun z : okA => (hpt50 ⟨z, h701.1⟩).2
    have hut764 := fun z : okA => (hpt750 ⟨⟨z, h701.1⟩, h760.1⟩).2
    have hev765 := fun z : okA => hev753 ⟨⟨z, h701.1⟩, h760.1⟩
    have hfb := h760
    have hO : OKW G h0 a (upd (upd (upd (upd (upd (upd (upd (upd (upd F 2 (nI sz)) 5 (nI cs709)) 7 (nI hd)) 12 (nI vr)) 13 as710) 14 wt711) 15 wf712) 5 (nI cs709)) 7 (nI hd)) (updR (updR R 2 (.ref pq)) 3 (.ref mq)) Z B708 J K707.1 (fun q99 x99 => x99 = rep G a K707 q99) w := hO.to rfl
    obtain ⟨_, qr769, hqr770⟩ := hO.2.1 24 _ (sg_24 G h0 a _ _ _ _ _)
    refine pc_V0 (G := G) (As := [.int 10, .int 53, .int 60]) (rest := []) hx hb hml hown hq hE hX pX0_al hP hD hS hA hl.1 (Y_give l G h0 a (upd (upd (upd (upd (upd (upd (upd F 2 (nI sz)) 5 (nI cs709)) 7 (nI hd)) 12 (nI vr)) 13 as710) 14 wt711) 15 wf712) (updR (updR R 2 (.ref pq)) 3 (.ref mq)) Z B708 J K707.1 (fun q99 x99 => x99 = rep G a K707 q99) w 10 53 60 cs709 hd (by omega) hO) (gV pw_158 pw_159 pw_160 pw_63 pw_128) hV_X0_give qr769 0 hqr770 rfl rfl rfl (Nat.le_of_ble_eq_true rfl) dX0_sign_230 ⟨(by show 0 + 0 ≤ 1; omega), (by show 0 + 0 ≤ 6; omega)⟩ ⟨(by show 3 + 1 ≤ (5 * n + 33); omega), (by show 8 + (4 + 11) + 83 ≤ (200 * n + 560); omega)⟩ (fun v768 u766 H locs hw767 hP hD hS => ?_)
    obtain ⟨w, _⟩ := u766
    obtain ⟨hw767, hO⟩ := hw767
    obtain rfl : v768 = some (.int 60) := hw767
    have hO : OKP G h0 a (upd (upd (upd (upd (upd (upd (upd F 2 (nI sz)) 5 (nI (cs709 + 1))) 7 (nI hd)) 12 (nI vr)) 13 as710) 14 wt711) 15 wf712) (updR (updR R 2 (.ref pq)) 3 (.ref mq)) Z (updA (updA (updA (updA B708 16 (upd ((B708 16)) cs709 10)) 17 (upd ((B708 17)) cs709 53)) 18 (upd ((B708 18)) cs709 0)) 19 (upd ((B708 19)) cs709 (nI hd))) J K707 w := hO.to rfl
    refine W.widen (k := 0) (n := 0) (Nat.le_of_ble_eq_true rfl) (Nat.le_of_ble_eq_true rfl) ?_
    refine W.eq (g2 := F0 m 233 ls [.int 60]) rfl ?_
    have hsw771 : ∀ x9 : Nat, x9 < cs → (upd ((B708 16)) cs709 10) x9 = B 16 x9 := fun x9 hx9 => (if_neg (by omega)).trans (hsw744 x9 hx9)
    have hsw772 : ∀ x9 : Nat, x9 < cs → (upd ((B708 17)) cs709 53) x9 = B 17 x9 := fun x9 hx9 => (if_neg (by omega)).trans (hsw745 x9 hx9)
    have hsw773 : ∀ x9 : Nat, x9 < cs → (upd ((B708 18)) cs709 0) x9 = B 18 x9 := fun x9 hx9 => (if_neg (by omega)).trans (hsw746 x9 hx9)
    have hsw774 : ∀ x9 : Nat, x9 < cs → (upd ((B708 19)) cs709 (nI hd)) x9 = B 19 x9 := fun x9 hx9 => (if_neg (by omega)).trans (hsw747 x9 hx9)
    obtain ⟨Ag775, hev776⟩ : ∃ A5 : Nat → AS, okA → EvQ pb.1 pb.2.1 pb.2.2.1 pb.2.2.2 (B 16) (B 17) (B 18) (B 19) (upd ((B708 16)) cs709 10) (upd ((B708 17)) cs709 53) (upd ((B708 18)) cs709 0) (upd ((B708 19)) cs709 (nI hd)) Ag A5 pd m9 sn lo cs (cs709 + 1) as9 as710 hd sl (60 :: os) := ⟨(upS Ag714 (cs709 + 1) (rcA as710, hd, sl, (60 :: os))), fun z => (hev765 z).trans (EmS.sign (hev765 z).1 (by show os.length + 1 + 1 ≤ 248; omega) (SgT.num hsk (by decide)))⟩
    have hng9 : Nng (upd ((B708 18)) cs709 0) := Nng.set hng743 (k := 0) (by omega)
    have hng777 := hng9
    refine W_size (fun hz1 hz2 => ?_)
    refine vx_ret ?_
    have hz778 : SmW B (updA (updA (updA (updA B708 16 (upd ((B708 16)) cs709 10)) 17 (upd ((B708 17)) cs709 53)) 18 (upd ((B708 18)) cs709 0)) 19 (upd ((B708 19)) cs709 (nI hd))) cs := (fun x9 hx9 => ⟨hsw771 x9 hx9, hsw772 x9 hx9, hsw773 x9 hx9, hsw774 x9 hx9⟩)
    have hz779 : BdE K K707 := hbe741
    have hz780 : BeF K K707 := hbf748
    have hz781 : BeL K K707 none := hbl751
    have hz782 : BeI K K707 g q := hbi752
    have hz783 : Bth B (updA (updA (updA (updA B708 16 (upd ((B708 16)) cs709 10)) 17 (upd ((B708 17)) cs709 53)) 18 (upd ((B708 18)) cs709 0)) 19 (upd ((B708 19)) cs709 (nI hd))) := (show Thx (upd (upd (upd (upd (upd F 2 (nI sz)) 5 (nI cs)) 7 (nI hd)) 12 (nI vr)) 13 as9) (upd (upd (upd (upd (upd (upd (upd (upd (upd F 2 (nI sz)) 5 (nI cs)) 7 (nI hd)) 12 (nI vr)) 13 as9) 5 (nI (cs709 + 1))) 13 as710) 14 wt711) 15 wf712) B (updA (updA (updA (updA B708 16 (upd ((B708 16)) cs709 10)) 17 (upd ((B708 17)) cs709 53)) 18 (upd ((B708 18)) cs709 0)) 19 (upd ((B708 19)) cs709 (nI hd))) from (Thx.b (Thx.b8 (Thx.b (Thx.b (Thx.f (Thx.f (Thx.f (Thx.f (Bth.thx hbb742) (by omega)) (by omega)) (by omega)) (by omega)) (by omega) (by decide)) (by omega) (by decide)) hng777) (by omega) (by decide))).2
    have hz784 : BeR B (updA (updA (updA (updA B708 16 (upd ((B708 16)) cs709 10)) 17 (upd ((B708 17)) cs709 53)) 18 (upd ((B708 18)) cs709 0)) 19 (upd ((B708 19)) cs709 (nI hd))) := (BeR.up (k := 19) (f := (upd ((B708 19)) cs709 (nI hd))) (BeR.up (k := 18) (f := (upd ((B708 18)) cs709 0)) (BeR.up (k := 17) (f := (upd ((B708 17)) cs709 53)) (BeR.up (k := 16) (f := (upd ((B708 16)) cs709 10)) hbr749 (by omega)) (by omega)) (by omega)) (by omega))
    have hz785 : 60 < 128 := (by omega)
    have hz786 : cs ≤ (cs709 + 1) ∧ (cs709 + 1) + 0 ≤ cs + 2 * tlE g q := (by omega)
    have hz787 : AsE as9 as710 := has754.1
    have hz788 : okA → PlQ pb B (updA (updA (updA (updA B708 16 (upd ((B708 16)) cs709 10)) 17 (upd ((B708 17)) cs709 53)) 18 (upd ((B708 18)) cs709 0)) 19 (upd ((B708 19)) cs709 (nI hd))) Ag Ag775 pd m9 sn lo cs (cs709 + 1) as9 as710 hd sl os 60 (K.2.1 0 q) := (fun z => Or.inr ⟨by rw [rsO_ne (by omega)]; exact hev776 z, by omega⟩)
    have hO : OKP G h0 a (upd (upd (upd (upd (upd (upd (upd F 2 (nI sz)) 5 (nI (cs709 + 1))) 7 (nI hd)) 12 (nI vr)) 13 as710) 14 wt711) 15 wf712) (updR (updR R 2 (.ref pq)) 3 (.ref mq)) Z (updA (updA (updA (updA B708 16 (upd ((B708 16)) cs709 10)) 17 (upd ((B708 17)) cs709 53)) 18 (upd ((B708 18)) cs709 0)) 19 (upd ((B708 19)) cs709 (nI hd))) J K707 w := hO.to rfl
    refine W.widen (k := 1) (n := 6) (by omega) (by omega) ?_
    have hzz1 : H.size ≤ s.heap.size + (0) := (by have z : 0 ≤ 0 := (by omega); omega)
    have hzz2 : hSl H ≤ hSl s.heap + (0) := (by have z : 0 ≤ 0 := (by omega); omega)
    exact W.iret (v := 60) hx hb hr (fun t99 ht99 hW99 => ⟨⟨_, (w, (K707, (updA (updA (updA (updA B708 16 (upd ((B708 16)) cs709 10)) 17 (upd ((B708 17)) cs709 53)) 18 (upd ((B708 18)) cs709 0)) 19 (upd ((B708 19)) cs709 (nI hd))), (cs709 + 1), as710, wt711, wf712, 60, Ag775)), rfl, ⟨rfl, hz778, hz779, hz780, hz781, hz782, hz783, hz784, hz785, hz786, hz787, hz788, hO⟩, by rw [ht99]; exact hP, hD, by rw [ht99]; exact hzz1, by rw [ht99]; exact hzz2⟩, hS.F ht99⟩) hS.2.2 dX0_sign_233
  by_cases h789 : x = 54
  · subst h789
    refine lv_tableIn (tgt := 166) (off := 156) hx hb dX0_sign_10 (by decide) (by decide) (by decide) (by decide) ?_
    refine lv_aload_n hx hb dX0_sign_166 rfl (lv_at hl 1 rfl) ?_
    refine lv_aload_n hx hb dX0_sign_167 rfl (lv_at hl 2 rfl) ?_
    refine p_get (v := .ref q1) (C := RX7) (Tc := TX7) (N := 11) (ci := 13) hx hb hq pin_wsX70 hown hE hP hO (by rw [hf35]; decide) (rep_1 hf35) rfl 6 (by decide) (hq _ pw_180) (fun _ h9 => h9) (congrArg (fun z => some (va_rf z)) hf37) dX0_sign_168 ?_
    refine lv_iload_n hx hb dX0_sign_171 rfl (lv_at hl 0 rfl) ?_
    refine lv_bipush (v := 60) hx hb dX0_sign_172 (by decide) ?_
    have hO : OKP G h0 a (upd (upd (upd (upd (upd (upd (upd (upd (upd (upd F 2 (nI sz)) 5 (nI cs)) 7 (nI hd)) 12 (nI vr)) 13 as9) 5 (nI cs8)) 13 as10) 14 wt11) 15 wf12) 2 (nI sz)) (updR (updR (updR R 2 (.ref pq)) 3 (.ref mq)) 2 (.ref pq)) Z B7 J K6 w := hO.to rfl
    obtain ⟨_, qr793, hqr794⟩ := hO.2.1 24 _ (sg_24 G h0 a _ _ _ _ _)
    refine pn_V0 (G := G) (As := [.ref q1, .int (nI t13), .int (nI 60)]) (rest := []) hx hb hml hown hq hE hX pX0_al hP hD hS hA hl.1 (Y_fit l G h0 a (upd (upd (upd (upd (upd (upd (upd (upd (upd F 2 (nI sz)) 5 (nI cs)) 7 (nI hd)) 12 (nI vr)) 13 as9) 5 (nI cs8)) 13 as10) 14 wt11) 15 wf12) (updR (updR R 2 (.ref pq)) 3 (.ref mq)) Z B7 J K6 w pq dr ml nd q1 sz t13 60 g pb (by omega) (BdE.pt hbe41 hwp hps).1 (BdE.pt hbe41 hwp hps).2.1 hf38 (by omega) hna.1.1 (NaB.be hbe41 hbf48 hwp hps.2.1 hdr0 (hbr49 11 (by decide)) hna).1.2.2 hO hl0) (gV pw_176 pw_177 pw_178 pw_63 pw_114) hV_X0_fit qr793 0 hqr794 rfl rfl rfl (Nat.le_of_ble_eq_true rfl) dX0_sign_174 ⟨(by show 0 + 1 ≤ 1; omega), (by show 0 + 6 ≤ 6; omega)⟩ ⟨(by show 7 + 1 ≤ (5 * n + 33); omega), (by show 8 + (4 + 11) + 122 ≤ (200 * n + 560); omega)⟩ (fun v792 u790 H locs hw791 hP hD hS => ?_) (fun ux ce9 q9 H9 locs9 hux hP9 hD9 hS9 hce hcv hcl => pb_out ux (ThQ.up (Thx.same (Thx.f (Thx.f (Thx.f (Thx.f (Bth.thx hbb42) (by omega)) (by omega)) (by omega)) (by omega)) rfl) (show RhX (updR (updR R 2 (.ref pq)) 3 (.ref mq)) (updR (updR (updR R 2 (.ref pq)) 3 (.ref mq)) 2 (.ref pq)) from fun k9 hk9 => by unfold updR; simp only [show ¬ k9 = 1 by omega, show ¬ k9 = 2 by omega, show ¬ k9 = 3 by omega, show ¬ k9 = 4 by omega, if_false]) hux) hnt hlocks hce hcv hcl hP9 hD9 hS9 (by show 0 + 1 ≤ 1; omega) (by show 0 + 6 ≤ 6; omega))
    obtain ⟨w, _⟩ := u790
    obtain ⟨hw791, h795, hO⟩ := hw791
    have h795 : FtQ pb t13 60 := h795
    obtain rfl : v792 = none := hw791
    have hO : OKP G h0 a (upd (upd (upd (upd (upd (upd (upd F 2 (nI sz)) 5 (nI cs8)) 7 (nI hd)) 12 (nI vr)) 13 as10) 14 wt11) 15 wf12) (updR (updR R 2 (.ref pq)) 3 (.ref mq)) Z B7 J K6 w := hO.to rfl
    refine W.widen (k := 0) (n := 0) (by show 0 + 0 ≤ 0; omega) (by show 0 + 0 ≤ 0; omega) ?_
    refine W.eq (g2 := F0 m 177 ls []) rfl ?_
    refine lv_aload_n hx hb dX0_sign_177 rfl (lv_at hl 1 rfl) ?_
    refine lv_aload_n hx hb dX0_sign_178 rfl (lv_at hl 2 rfl) ?_
    refine p_get (v := .ref q2) (C := RX7) (Tc := TX7) (N := 11) (ci := 13) hx hb hq pin_wsX70 hown hE hP hO (by rw [hf35]; decide) (rep_1 hf35) rfl 7 (by decide) (hq _ pw_169) (fun _ h9 => h9) (congrArg (fun z => some (va_rf z)) hf39) dX0_sign_179 ?_
    refine lv_aload_n hx hb dX0_sign_182 rfl (lv_at hl 1 rfl) ?_
    refine lv_aload_n hx hb dX0_sign_183 rfl (lv_at hl 2 rfl) ?_
    refine p_get (v := .ref q2) (C := RX7) (Tc := TX7) (N := 11) (ci := 13) hx hb hq pin_wsX70 hown hE hP hO (by rw [hf35]; decide) (rep_1 hf35) rfl 7 (by decide) (hq _ pw_169) (fun _ h9 => h9) (congrArg (fun z => some (va_rf z)) hf39) dX0_sign_184 ?_
    have hO : OKP G h0 a (upd (upd (upd (upd (upd (upd (upd (upd (upd (upd (upd (upd (upd (upd F 2 (nI sz)) 5 (nI cs)) 7 (nI hd)) 12 (nI vr)) 13 as9) 5 (nI cs8)) 13 as10) 14 wt11) 15 wf12) 2 (nI sz)) 5 (nI cs8)) 7 (nI hd)) 12 (nI vr)) 13 as10) (updR (updR (updR (updR R 2 (.ref pq)) 3 (.ref mq)) 2 (.ref pq)) 3 (.ref mq)) Z B7 J K6 w := hO.to rfl
    obtain ⟨_, qr799, hqr800⟩ := hO.2.1 24 _ (sg_24 G h0 a _ _ _ _ _)
    refine pn_V0 (G := G) (As := [.ref q2]) (rest := [.ref q2, .ref (a 4)]) hx hb hml hown hq hE hX pX0_al hP hD hS hA hl.1 ((ihv (by omega)) h0 a (upd (upd (upd (upd (upd (upd (upd (upd (upd F 2 (nI sz)) 5 (nI cs)) 7 (nI hd)) 12 (nI vr)) 13 as9) 5 (nI cs8)) 13 as10) 14 wt11) 15 wf12) (updR (updR R 2 (.ref pq)) 3 (.ref mq)) Z B7 J K6 w pq dr ml nd nm cp it s9 q2 mq cs8 vr sz g rk pb Ag14 pd sl (u15 :: os) m9 sn lo hd c0 as10 (okA ∧ ¬ t13 = 63) (by omega) (BdE.wp hbe41 hwp) (BdE.pt hbe41 hwp hps) (BdE.rko hbe41 hrk) (by omega) (by omega) hng43 hf36 hf40 ⟨hv1.1, (by have z9 := hv1; omega)⟩ (EkA.be hbe41 (hbr49 7 (by decide)) (hbr49 11 (by decide)) hek) (OwC.be hbe41 hmq hdr0 hcO) (NaB.be hbe41 hbf48 hwp hps.2.1 hdr0 (hbr49 11 (by decide)) hna) (EnV.of (hbr49 26 (by decide)) (hbr49 27 (by decide)) hen) (fun z => (hev53 z).1) (by omega) (by show os.length + 1 + ndE g q2 ≤ 248; omega) hlf1 hO hl0) (gV pw_173 pw_174 pw_175 pw_63 pw_224) hV_X0_value qr799 0 hqr800 rfl rfl rfl (Nat.le_of_ble_eq_true rfl) dX0_sign_187 ⟨(by show 0 + 1 ≤ 1; omega), (by show 0 + 6 ≤ 6; omega)⟩ ⟨(by show (5 * (n - 1) + 34) + 1 ≤ (5 * n + 33); omega), (by show 8 + (3 + 11) + (200 * (n - 1) + 600) ≤ (200 * n + 560); omega)⟩ (fun v798 u796 H locs hw797 hP hD hS => ?_) (fun ux ce9 q9 H9 locs9 hux hP9 hD9 hS9 hce hcv hcl => pb_out ux (ThQ.up (Thx.same (Thx.same (Thx.same (Thx.same (Thx.same (Thx.f (Thx.f (Thx.f (Thx.f (Bth.thx hbb42) (by omega)) (by omega)) (by omega)) (by omega)) rfl) rfl) rfl) rfl) rfl) (show RhX (updR (updR R 2 (.ref pq)) 3 (.ref mq)) (updR (updR (updR (updR R 2 (.ref pq)) 3 (.ref mq)) 2 (.ref pq)) 3 (.ref mq)) from fun k9 hk9 => by unfold updR; simp only [show ¬ k9 = 1 by omega, show ¬ k9 = 2 by omega, show ¬ k9 = 3 by omega, show ¬ k9 = 4 by omega, if_false]) hux) hnt hlocks hce hcv hcl hP9 hD9 hS9 (by show 0 + 1 ≤ 1; omega) (by show 0 + 6 ≤ 6; omega))
    obtain ⟨w, K801, B802, cs803, as804, wt805, wf806, t807, Ag808, u809⟩ := u796
    obtain ⟨hw797, h810, h811, h812, h813, h814, h815, h816, h817, h818, h819, h820, h821, hO⟩ := hw797
    have h810 : SmW B7 B802 cs8 := h810
    have h811 : BdE K6 K801 := h811
    have h812 : BeF K6 K801 := h812
    have h813 : BeL K6 K801 none := h813
    have h814 : BeI K6 K801 g q2 := h814
    have h815 : Bth B7 B802 := h815
    have h816 : BeR B7 B802 := h816
    have h817 : t807 < 128 := h817
    have h818 : cs8 ≤ cs803 ∧ cs803 + 0 ≤ cs8 + 2 * tlE g q2 := h818
    have h819 : AsE as10 as804 ∧ AsE as10 wt805 ∧ AsE as10 wf806 := h819
    have h820 : (okA ∧ ¬ t13 = 63) → VaQ pb B7 B802 Ag14 Ag808 pd m9 sn lo cs8 cs803 as10 as804 wt805 wf806 hd sl (u15 :: os) t807 u809 (K6.2.1 0 q2) := h820
    have h821 : CaK (K6.2.1 0 q2) → cs803 + 2 ≤ cs8 + 2 * tlE g q2 := h821
    obtain rfl : v798 = some (.int (nI t807)) := hw797
    have hf822 : K801.1 pq = 7 := (BdE.T h811 hf28 (by decide))
    have hf823 : K801.2.2.1 18 pq = some (a 1) := (BdE.C h811 (by rw [hf28]; decide) 18).trans hf29
    have hf824 : K801.2.2.1 14 pq = some dr := (BdE.C h811 (by rw [hf28]; decide) 14).trans hf30
    have hf825 : K801.1 dr = 8 := (BdE.T h811 hf31 (by decide))
    have hf826 : K801.2.2.1 15 pq = some ml := (BdE.C h811 (by rw [hf28]; decide) 15).trans hf32
    have hf827 : K801.1 ml = 5 := (BdE.T h811 hf33 (by decide))
    have hf828 : K801.2.1 24 pq = (nI nd) := (BdE.I h811 (by rw [hf28]; decide) (by decide) (by decide)).trans hf34
    have hf829 : K801.1 q = 1 := (BdE.T h811 hf35 (by decide))
    have hf830 : K801.1 mq = 3 := (BdE.T h811 hf36 (by decide))
    have hf831 : K801.2.2.1 0 q = some q1 := (BdE.C h811 (by rw [hf35]; decide) 0).trans hf37
    have hf832 : K801.1 q1 = 1 := (BdE.T h811 hf38 (by decide))
    have hf833 : K801.2.2.1 1 q = some q2 := (BdE.C h811 (by rw [hf35]; decide) 1).trans hf39
    have hf834 : K801.1 q2 = 1 := (BdE.T h811 hf40 (by decide))
    have hO : OKP G h0 a (upd (upd (upd (upd (upd (upd (upd F 2 (nI sz)) 5 (nI cs803)) 7 (nI hd)) 12 (nI vr)) 13 as804) 14 wt805) 15 wf806) (updR (updR R 2 (.ref pq)) 3 (.ref mq)) Z B802 J K801 w := hO.to rfl
    refine W.widen (k := 0) (n := 0) (by show 0 + 0 ≤ 0; omega) (by show 0 + 0 ≤ 0; omega) ?_
    refine W.eq (g2 := F0 m 190 ls [.int (nI t807), .ref q2, .ref (a 4)]) rfl ?_
    have hbe835 := BdE.trans hbe41 h811
    have hbb836 : Bth B B802 := Bth.trans (show Thx (upd (upd (upd (upd (upd F 2 (nI sz)) 5 (nI cs)) 7 (nI hd)) 12 (nI vr)) 13 as9) (upd (upd (upd (upd (upd (upd (upd (upd (upd F 2 (nI sz)) 5 (nI cs)) 7 (nI hd)) 12 (nI vr)) 13 as9) 5 (nI cs8)) 13 as10) 14 wt11) 15 wf12) B B7 from (Thx.f (Thx.f (Thx.f (Thx.f (Bth.thx hbb42) (by omega)) (by omega)) (by omega)) (by omega))).2 h815
    have hng837 : Nng (B802 18) := h815.2 hng43
    have hsw838 : ∀ x9 : Nat, x9 < cs → (B802 16) x9 = B 16 x9 := fun x9 hx9 => ((h810 x9 (by omega)).1).trans (hsw44 x9 hx9)
    have hsw839 : ∀ x9 : Nat, x9 < cs → (B802 17) x9 = B 17 x9 := fun x9 hx9 => ((h810 x9 (by omega)).2.1).trans (hsw45 x9 hx9)
    have hsw840 : ∀ x9 : Nat, x9 < cs → (B802 18) x9 = B 18 x9 := fun x9 hx9 => ((h810 x9 (by omega)).2.2.1).trans (hsw46 x9 hx9)
    have hsw841 : ∀ x9 : Nat, x9 < cs → (B802 19) x9 = B 19 x9 := fun x9 hx9 => ((h810 x9 (by omega)).2.2.2).trans (hsw47 x9 hx9)
    have hbf842 := BeF.trans hbf48 h812 hbe41
    have hbl845 := BeL.trans hbl51 h813 hbe41
    have hbi846 := BeI.trans hbi52 h814 hbe41 hin1
    have hbr843 : BeR B B802 := BeR.trans hbr49 h816
    have hpt844 : ((okA ∧ ¬ t13 = 63) ∧ ¬ t807 = 63) → EvQ pb.1 pb.2.1 pb.2.2.1 pb.2.2.2 (B 16) (B 17) (B 18) (B 19) (B802 16) (B802 17) (B802 18) (B802 19) Ag Ag808 pd m9 sn lo cs cs803 as9 as804 hd sl (u809 :: (u15 :: os)) ∧ UTb u809 (nI t807) as804 wt805 wf806 := fun z => VaQ.part (B1 := B7) (hev53 z.1) (h820 z.1) h817 z.2
    have hev847 := fun z => (hpt844 z).1
    have has848 : AsE as9 as804 ∧ AsE as9 wt805 ∧ AsE as9 wf806 := ⟨AsE.trans has54.1 h819.1, AsE.trans has54.1 h819.2.1, AsE.trans has54.1 h819.2.2⟩
    refine lv_bipush (v := 60) hx hb dX0_sign_190 (by decide) ?_
    have hO : OKP G h0 a (upd (upd (upd (upd (upd (upd (upd (upd (upd (upd F 2 (nI sz)) 5 (nI cs)) 7 (nI hd)) 12 (nI vr)) 13 as9) 5 (nI cs803)) 13 as804) 14 wt805) 15 wf806) 2 (nI sz)) (updR (updR (updR R 2 (.ref pq)) 3 (.ref mq)) 2 (.ref pq)) Z B802 J K801 w := hO.to rfl
    obtain ⟨_, qr852, hqr853⟩ := hO.2.1 24 _ (sg_24 G h0 a _ _ _ _ _)
    refine pn_V0 (G := G) (As := [.ref q2, .int (nI t807), .int (nI 60)]) (rest := []) hx hb hml hown hq hE hX pX0_al hP hD hS hA hl.1 (Y_fit l G h0 a (upd (upd (upd (upd (upd (upd (upd (upd (upd F 2 (nI sz)) 5 (nI cs)) 7 (nI hd)) 12 (nI vr)) 13 as9) 5 (nI cs803)) 13 as804) 14 wt805) 15 wf806) (updR (updR R 2 (.ref pq)) 3 (.ref mq)) Z B802 J K801 w pq dr ml nd q2 sz t807 60 g pb (by omega) (BdE.pt hbe835 hwp hps).1 (BdE.pt hbe835 hwp hps).2.1 hf834 (by omega) hna.1.1 (NaB.be hbe835 hbf842 hwp hps.2.1 hdr0 (hbr843 11 (by decide)) hna).1.2.2 hO hl0) (gV pw_176 pw_177 pw_178 pw_63 pw_114) hV_X0_fit qr852 0 hqr853 rfl rfl rfl (Nat.le_of_ble_eq_true rfl) dX0_sign_192 ⟨(by show 0 + 1 ≤ 1; omega), (by show 0 + 6 ≤ 6; omega)⟩ ⟨(by show 7 + 1 ≤ (5 * n + 33); omega), (by show 8 + (4 + 11) + 122 ≤ (200 * n + 560); omega)⟩ (fun v851 u849 H locs hw850 hP hD hS => ?_) (fun ux ce9 q9 H9 locs9 hux hP9 hD9 hS9 hce hcv hcl => pb_out ux (ThQ.up (Thx.same (Thx.f (Thx.f (Thx.f (Thx.f (Bth.thx hbb836) (by omega)) (by omega)) (by omega)) (by omega)) rfl) (show RhX (updR (updR R 2 (.ref pq)) 3 (.ref mq)) (updR (updR (updR R 2 (.ref pq)) 3 (.ref mq)) 2 (.ref pq)) from fun k9 hk9 => by unfold updR; simp only [show ¬ k9 = 1 by omega, show ¬ k9 = 2 by omega, show ¬ k9 = 3 by omega, show ¬ k9 = 4 by omega, if_false]) hux) hnt hlocks hce hcv hcl hP9 hD9 hS9 (by show 0 + 1 ≤ 1; omega) (by show 0 + 6 ≤ 6; omega))
    obtain ⟨w, _⟩ := u849
    obtain ⟨hw850, h854, hO⟩ := hw850
    have h854 : FtQ pb t807 60 := h854
    obtain rfl : v851 = none := hw850
    have hO : OKP G h0 a (upd (upd (upd (upd (upd (upd (upd F 2 (nI sz)) 5 (nI cs803)) 7 (nI hd)) 12 (nI vr)) 13 as804) 14 wt805) 15 wf806) (updR (updR R 2 (.ref pq)) 3 (.ref mq)) Z B802 J K801 w := hO.to rfl
    refine W.widen (k := 0) (n := 0) (by show 0 + 0 ≤ 0; omega) (by show 0 + 0 ≤ 0; omega) ?_
    refine W.eq (g2 := F0 m 195 ls []) rfl ?_
    refine lv_iload_n hx hb dX0_sign_195 rfl (lv_at hl 3 rfl) ?_
    refine lv_bipush (v := 54) hx hb dX0_sign_196 (by decide) ?_
    refine lv_icmp_lt (tgt := 211) hx hb dX0_sign_198 (by decide) (fun c855 => absurd c855 (by decide)) (fun c855 => ?_)
    refine lv_iload_n hx hb dX0_sign_201 rfl (lv_at hl 3 rfl) ?_
    refine lv_bipush (v := 57) hx hb dX0_sign_202 (by decide) ?_
    refine lv_icmp_gt (tgt := 211) hx hb dX0_sign_204 (by decide) (fun c856 => absurd c856 (by decide)) (fun c856 => ?_)
    refine lv_iconst (v := 1) hx hb dX0_sign_207 (by decide) ?_
    refine lv_goto (tgt := 212) hx hb dX0_sign_208 (by decide) ?_
    refine lv_istore (lv' := [(4, .int 1), (3, .int (nI t13)), (0, .ref (a 4)), (1, .ref q), (2, .int 54)]) hx hb dX0_sign_212 hl (by decide) rfl (fun ls hl => ?_)
    refine lv_aload_n hx hb dX0_sign_214 rfl (lv_at hl 2 rfl) ?_
    refine lv_bipush (v := 10) hx hb dX0_sign_215 (by decide) ?_
    refine lv_iload_n hx hb dX0_sign_217 rfl (lv_at hl 4 rfl) ?_
    refine lv_iload hx hb dX0_sign_218 (lv_at hl 0 rfl) ?_
    refine lv_if_eq (tgt := 228) hx hb dX0_sign_220 (by decide) (fun c857 => absurd c857 (by decide)) (fun c857 => ?_)
    refine lv_bipush (v := 61) hx hb dX0_sign_223 (by decide) ?_
    refine lv_goto (tgt := 230) hx hb dX0_sign_225 (by decide) ?_
    have hut858 := fun z : okA => (hpt50 ⟨z, h795.1⟩).2
    have hut859 := fun z : okA => (hpt844 ⟨⟨z, h795.1⟩, h854.1⟩).2
    have hev860 := fun z : okA => hev847 ⟨⟨z, h795.1⟩, h854.1⟩
    have hfb := h854
    have hO : OKW G h0 a (upd (upd (upd (upd (upd (upd (upd (upd (upd F 2 (nI sz)) 5 (nI cs803)) 7 (nI hd)) 12 (nI vr)) 13 as804) 14 wt805) 15 wf806) 5 (nI cs803)) 7 (nI hd)) (updR (updR R 2 (.ref pq)) 3 (.ref mq)) Z B802 J K801.1 (fun q99 x99 => x99 = rep G a K801 q99) w := hO.to rfl
    obtain ⟨_, qr864, hqr865⟩ := hO.2.1 24 _ (sg_24 G h0 a _ _ _ _ _)
    refine pc_V0 (G := G) (As := [.int 10, .int 54, .int 61]) (rest := []) hx hb hml hown hq hE hX pX0_al hP hD hS hA hl.1 (Y_give l G h0 a (upd (upd (upd (upd (upd (upd (upd F 2 (nI sz)) 5 (nI cs803)) 7 (nI hd)) 12 (nI vr)) 13 as804) 14 wt805) 15 wf806) (updR (updR R 2 (.ref pq)) 3 (.ref mq)) Z B802 J K801.1 (fun q99 x99 => x99 = rep G a K801 q99) w 10 54 61 cs803 hd (by omega) hO) (gV pw_158 pw_159 pw_160 pw_63 pw_128) hV_X0_give qr864 0 hqr865 rfl rfl rfl (Nat.le_of_ble_eq_true rfl) dX0_sign_230 ⟨(by show 0 + 0 ≤ 1; omega), (by show 0 + 0 ≤ 6; omega)⟩ ⟨(by show 3 + 1 ≤ (5 * n + 33); omega), (by show 8 + (4 + 11) + 83 ≤ (200 * n + 560); omega)⟩ (fun v863 u861 H locs hw862 hP hD hS => ?_)
    obtain ⟨w, _⟩ := u861
    obtain ⟨hw862, hO⟩ := hw862
    obtain rfl : v863 = some (.int 61) := hw862
    have hO : OKP G h0 a (upd (upd (upd (upd (upd (upd (upd F 2 (nI sz)) 5 (nI (cs803 + 1))) 7 (nI hd)) 12 (nI vr)) 13 as804) 14 wt805) 15 wf806) (updR (updR R 2 (.ref pq)) 3 (.ref mq)) Z (updA (updA (updA (updA B802 16 (upd ((B802 16)) cs803 10)) 17 (upd ((B802 17)) cs803 54)) 18 (upd ((B802 18)) cs803 0)) 19 (upd ((B802 19)) cs803 (nI hd))) J K801 w := hO.to rfl
    refine W.widen (k := 0) (n := 0) (Nat.le_of_ble_eq_true rfl) (Nat.le_of_ble_eq_true rfl) ?_
    refine W.eq (g2 := F0 m 233 ls [.int 61]) rfl ?_
    have hsw866 : ∀ x9 : Nat, x9 < cs → (upd ((B802 16)) cs803 10) x9 = B 16 x9 := fun x9 hx9 => (if_neg (by omega)).trans (hsw838 x9 hx9)
    have hsw867 : ∀ x9 : Nat, x9 < cs → (upd ((B802 17)) cs803 54) x9 = B 17 x9 := fun x9 hx9 => (if_neg (by omega)).trans (hsw839 x9 hx9)
    have hsw868 : ∀ x9 : Nat, x9 < cs → (upd ((B802 18)) cs803 0) x9 = B 18 x9 := fun x9 hx9 => (if_neg (by omega)).trans (hsw840 x9 hx9)
    have hsw869 : ∀ x9 : Nat, x9 < cs → (upd ((B802 19)) cs803 (nI hd)) x9 = B 19 x9 := fun x9 hx9 => (if_neg (by omega)).trans (hsw841 x9 hx9)
    obtain ⟨Ag870, hev871⟩ : ∃ A5 : Nat → AS, okA → EvQ pb.1 pb.2.1 pb.2.2.1 pb.2.2.2 (B 16) (B 17) (B 18) (B 19) (upd ((B802 16)) cs803 10) (upd ((B802 17)) cs803 54) (upd ((B802 18)) cs803 0) (upd ((B802 19)) cs803 (nI hd)) Ag A5 pd m9 sn lo cs (cs803 + 1) as9 as804 hd sl (61 :: os) := ⟨(upS Ag808 (cs803 + 1) (rcA as804, hd, sl, (61 :: os))), fun z => (hev860 z).trans (EmS.sign (hev860 z).1 (by show os.length + 1 + 1 ≤ 248; omega) (SgT.cmp (by decide)))⟩
    have hng9 : Nng (upd ((B802 18)) cs803 0) := Nng.set hng837 (k := 0) (by omega)
    have hng872 := hng9
    refine W_size (fun hz1 hz2 => ?_)
    refine vx_ret ?_
    have hz873 : SmW B (updA (updA (updA (updA B802 16 (upd ((B802 16)) cs803 10)) 17 (upd ((B802 17)) cs803 54)) 18 (upd ((B802 18)) cs803 0)) 19 (upd ((B802 19)) cs803 (nI hd))) cs := (fun x9 hx9 => ⟨hsw866 x9 hx9, hsw867 x9 hx9, hsw868 x9 hx9, hsw869 x9 hx9⟩)
    have hz874 : BdE K K801 := hbe835
    have hz875 : BeF K K801 := hbf842
    have hz876 : BeL K K801 none := hbl845
    have hz877 : BeI K K801 g q := hbi846
    have hz878 : Bth B (updA (updA (updA (updA B802 16 (upd ((B802 16)) cs803 10)) 17 (upd ((B802 17)) cs803 54)) 18 (upd ((B802 18)) cs803 0)) 19 (upd ((B802 19)) cs803 (nI hd))) := (show Thx (upd (upd (upd (upd (upd F 2 (nI sz)) 5 (nI cs)) 7 (nI hd)) 12 (nI vr)) 13 as9) (upd (upd (upd (upd (upd (upd (upd (upd (upd F 2 (nI sz)) 5 (nI cs)) 7 (nI hd)) 12 (nI vr)) 13 as9) 5 (nI (cs803 + 1))) 13 as804) 14 wt805) 15 wf806) B (updA (updA (updA (updA B802 16 (upd ((B802 16)) cs803 10)) 17 (upd ((B802 17)) cs803 54)) 18 (upd ((B802 18)) cs803 0)) 19 (upd ((B802 19)) cs803 (nI hd))) from (Thx.b (Thx.b8 (Thx.b (Thx.b (Thx.f (Thx.f (Thx.f (Thx.f (Bth.thx hbb836) (by omega)) (by omega)) (by omega)) (by omega)) (by omega) (by decide)) (by omega) (by decide)) hng872) (by omega) (by decide))).2
    have hz879 : BeR B (updA (updA (updA (updA B802 16 (upd ((B802 16)) cs803 10)) 17 (upd ((B802 17)) cs803 54)) 18 (upd ((B802 18)) cs803 0)) 19 (upd ((B802 19)) cs803 (nI hd))) := (BeR.up (k := 19) (f := (upd ((B802 19)) cs803 (nI hd))) (BeR.up (k := 18) (f := (upd ((B802 18)) cs803 0)) (BeR.up (k := 17) (f := (upd ((B802 17)) cs803 54)) (BeR.up (k := 16) (f := (upd ((B802 16)) cs803 10)) hbr843 (by omega)) (by omega)) (by omega)) (by omega))
    have hz880 : 61 < 128 := (by omega)
    have hz881 : cs ≤ (cs803 + 1) ∧ (cs803 + 1) + 0 ≤ cs + 2 * tlE g q := (by omega)
    have hz882 : AsE as9 as804 := has848.1
    have hz883 : okA → PlQ pb B (updA (updA (updA (updA B802 16 (upd ((B802 16)) cs803 10)) 17 (upd ((B802 17)) cs803 54)) 18 (upd ((B802 18)) cs803 0)) 19 (upd ((B802 19)) cs803 (nI hd))) Ag Ag870 pd m9 sn lo cs (cs803 + 1) as9 as804 hd sl os 61 (K.2.1 0 q) := (fun z => Or.inr ⟨by rw [rsO_ne (by omega)]; exact hev871 z, by omega⟩)
    have hO : OKP G h0 a (upd (upd (upd (upd (upd (upd (upd F 2 (nI sz)) 5 (nI (cs803 + 1))) 7 (nI hd)) 12 (nI vr)) 13 as804) 14 wt805) 15 wf806) (updR (updR R 2 (.ref pq)) 3 (.ref mq)) Z (updA (updA (updA (updA B802 16 (upd ((B802 16)) cs803 10)) 17 (upd ((B802 17)) cs803 54)) 18 (upd ((B802 18)) cs803 0)) 19 (upd ((B802 19)) cs803 (nI hd))) J K801 w := hO.to rfl
    refine W.widen (k := 1) (n := 6) (by omega) (by omega) ?_
    have hzz1 : H.size ≤ s.heap.size + (0) := (by have z : 0 ≤ 0 := (by omega); omega)
    have hzz2 : hSl H ≤ hSl s.heap + (0) := (by have z : 0 ≤ 0 := (by omega); omega)
    exact W.iret (v := 61) hx hb hr (fun t99 ht99 hW99 => ⟨⟨_, (w, (K801, (updA (updA (updA (updA B802 16 (upd ((B802 16)) cs803 10)) 17 (upd ((B802 17)) cs803 54)) 18 (upd ((B802 18)) cs803 0)) 19 (upd ((B802 19)) cs803 (nI hd))), (cs803 + 1), as804, wt805, wf806, 61, Ag870)), rfl, ⟨rfl, hz873, hz874, hz875, hz876, hz877, hz878, hz879, hz880, hz881, hz882, hz883, hO⟩, by rw [ht99]; exact hP, hD, by rw [ht99]; exact hzz1, by rw [ht99]; exact hzz2⟩, hS.F ht99⟩) hS.2.2 dX0_sign_233
  by_cases h884 : x = 55
  · subst h884
    refine lv_tableIn (tgt := 166) (off := 156) hx hb dX0_sign_10 (by decide) (by decide) (by decide) (by decide) ?_
    refine lv_aload_n hx hb dX0_sign_166 rfl (lv_at hl 1 rfl) ?_
    refine lv_aload_n hx hb dX0_sign_167 rfl (lv_at hl 2 rfl) ?_
    refine p_get (v := .ref q1) (C := RX7) (Tc := TX7) (N := 11) (ci := 13) hx hb hq pin_wsX70 hown hE hP hO (by rw [hf35]; decide) (rep_1 hf35) rfl 6 (by decide) (hq _ pw_180) (fun _ h9 => h9) (congrArg (fun z => some (va_rf z)) hf37) dX0_sign_168 ?_
    refine lv_iload_n hx hb dX0_sign_171 rfl (lv_at hl 0 rfl) ?_
    refine lv_bipush (v := 60) hx hb dX0_sign_172 (by decide) ?_
    have hO : OKP G h0 a (upd (upd (upd (upd (upd (upd (upd (upd (upd (upd F 2 (nI sz)) 5 (nI cs)) 7 (nI hd)) 12 (nI vr)) 13 as9) 5 (nI cs8)) 13 as10) 14 wt11) 15 wf12) 2 (nI sz)) (updR (updR (updR R 2 (.ref pq)) 3 (.ref mq)) 2 (.ref pq)) Z B7 J K6 w := hO.to rfl
    obtain ⟨_, qr888, hqr889⟩ := hO.2.1 24 _ (sg_24 G h0 a _ _ _ _ _)
    refine pn_V0 (G := G) (As := [.ref q1, .int (nI t13), .int (nI 60)]) (rest := []) hx hb hml hown hq hE hX pX0_al hP hD hS hA hl.1 (Y_fit l G h0 a (upd (upd (upd (upd (upd (upd (upd (upd (upd F 2 (nI sz)) 5 (nI cs)) 7 (nI hd)) 12 (nI vr)) 13 as9) 5 (nI cs8)) 13 as10) 14 wt11) 15 wf12) (updR (updR R 2 (.ref pq)) 3 (.ref mq)) Z B7 J K6 w pq dr ml nd q1 sz t13 60 g pb (by omega) (BdE.pt hbe41 hwp hps).1 (BdE.pt hbe41 hwp hps).2.1 hf38 (by omega) hna.1.1 (NaB.be hbe41 hbf48 hwp hps.2.1 hdr0 (hbr49 11 (by decide)) hna).1.2.2 hO hl0) (gV pw_176 pw_177 pw_178 pw_63 pw_114) hV_X0_fit qr888 0 hqr889 rfl rfl rfl (Nat.le_of_ble_eq_true rfl) dX0_sign_174 ⟨(by show 0 + 1 ≤ 1; omega), (by show 0 + 6 ≤ 6; omega)⟩ ⟨(by show 7 + 1 ≤ (5 * n + 33); omega), (by show 8 + (4 + 11) + 122 ≤ (200 * n + 560); omega)⟩ (fun v887 u885 H locs hw886 hP hD hS => ?_) (fun ux ce9 q9 H9 locs9 hux hP9 hD9 hS9 hce hcv hcl => pb_out ux (ThQ.up (Thx.same (Thx.f (Thx.f (Thx.f (Thx.f (Bth.thx hbb42) (by omega)) (by omega)) (by omega)) (by omega)) rfl) (show RhX (updR (updR R 2 (.ref pq)) 3 (.ref mq)) (updR (updR (updR R 2 (.ref pq)) 3 (.ref mq)) 2 (.ref pq)) from fun k9 hk9 => by unfold updR; simp only [show ¬ k9 = 1 by omega, show ¬ k9 = 2 by omega, show ¬ k9 = 3 by omega, show ¬ k9 = 4 by omega, if_false]) hux) hnt hlocks hce hcv hcl hP9 hD9 hS9 (by show 0 + 1 ≤ 1; omega) (by show 0 + 6 ≤ 6; omega))
    obtain ⟨w, _⟩ := u885
    obtain ⟨hw886, h890, hO⟩ := hw886
    have h890 : FtQ pb t13 60 := h890
    obtain rfl : v887 = none := hw886
    have hO : OKP G h0 a (upd (upd (upd (upd (upd (upd (upd F 2 (nI sz)) 5 (nI cs8)) 7 (nI hd)) 12 (nI vr)) 13 as10) 14 wt11) 15 wf12) (updR (updR R 2 (.ref pq)) 3 (.ref mq)) Z B7 J K6 w := hO.to rfl
    refine W.widen (k := 0) (n := 0) (by show 0 + 0 ≤ 0; omega) (by show 0 + 0 ≤ 0; omega) ?_
    refine W.eq (g2 := F0 m 177 ls []) rfl ?_
    refine lv_aload_n hx hb dX0_sign_177 rfl (lv_at hl 1 rfl) ?_
    refine lv_aload_n hx hb dX0_sign_178 rfl (lv_at hl 2 rfl) ?_
    refine p_get (v := .ref q2) (C := RX7) (Tc := TX7) (N := 11) (ci := 13) hx hb hq pin_wsX70 hown hE hP hO (by rw [hf35]; decide) (rep_1 hf35) rfl 7 (by decide) (hq _ pw_169) (fun _ h9 => h9) (congrArg (fun z => some (va_rf z)) hf39) dX0_sign_179 ?_
    refine lv_aload_n hx hb dX0_sign_182 rfl (lv_at hl 1 rfl) ?_
    refine lv_aload_n hx hb dX0_sign_183 rfl (lv_at hl 2 rfl) ?_
    refine p_get (v := .ref q2) (C := RX7) (Tc := TX7) (N := 11) (ci := 13) hx hb hq pin_wsX70 hown hE hP hO (by rw [hf35]; decide) (rep_1 hf35) rfl 7 (by decide) (hq _ pw_169) (fun _ h9 => h9) (congrArg (fun z => some (va_rf z)) hf39) dX0_sign_184 ?_
    have hO : OKP G h0 a (upd (upd (upd (upd (upd (upd (upd (upd (upd (upd (upd (upd (upd (upd F 2 (nI sz)) 5 (nI cs)) 7 (nI hd)) 12 (nI vr)) 13 as9) 5 (nI cs8)) 13 as10) 14 wt11) 15 wf12) 2 (nI sz)) 5 (nI cs8)) 7 (nI hd)) 12 (nI vr)) 13 as10) (updR (updR (updR (updR R 2 (.ref pq)) 3 (.ref mq)) 2 (.ref pq)) 3 (.ref mq)) Z B7 J K6 w := hO.to rfl
    obtain ⟨_, qr894, hqr895⟩ := hO.2.1 24 _ (sg_24 G h0 a _ _ _ _ _)
    refine pn_V0 (G := G) (As := [.ref q2]) (rest := [.ref q2, .ref (a 4)]) hx hb hml hown hq hE hX pX0_al hP hD hS hA hl.1 ((ihv (by omega)) h0 a (upd (upd (upd (upd (upd (upd (upd (upd (upd F 2 (nI sz)) 5 (nI cs)) 7 (nI hd)) 12 (nI vr)) 13 as9) 5 (nI cs8)) 13 as10) 14 wt11) 15 wf12) (updR (updR R 2 (.ref pq)) 3 (.ref mq)) Z B7 J K6 w pq dr ml nd nm cp it s9 q2 mq cs8 vr sz g rk pb Ag14 pd sl (u15 :: os) m9 sn lo hd c0 as10 (okA ∧ ¬ t13 = 63) (by omega) (BdE.wp hbe41 hwp) (BdE.pt hbe41 hwp hps) (BdE.rko hbe41 hrk) (by omega) (by omega) hng43 hf36 hf40 ⟨hv1.1, (by have z9 := hv1; omega)⟩ (EkA.be hbe41 (hbr49 7 (by decide)) (hbr49 11 (by decide)) hek) (OwC.be hbe41 hmq hdr0 hcO) (NaB.be hbe41 hbf48 hwp hps.2.1 hdr0 (hbr49 11 (by decide)) hna) (EnV.of (hbr49 26 (by decide)) (hbr49 27 (by decide)) hen) (fun z => (hev53 z).1) (by omega) (by show os.length + 1 + ndE g q2 ≤ 248; omega) hlf1 hO hl0) (gV pw_173 pw_174 pw_175 pw_63 pw_224) hV_X0_value qr894 0 hqr895 rfl rfl rfl (Nat.le_of_ble_eq_true rfl) dX0_sign_187 ⟨(by show 0 + 1 ≤ 1; omega), (by show 0 + 6 ≤ 6; omega)⟩ ⟨(by show (5 * (n - 1) + 34) + 1 ≤ (5 * n + 33); omega), (by show 8 + (3 + 11) + (200 * (n - 1) + 600) ≤ (200 * n + 560); omega)⟩ (fun v893 u891 H locs hw892 hP hD hS => ?_) (fun ux ce9 q9 H9 locs9 hux hP9 hD9 hS9 hce hcv hcl => pb_out ux (ThQ.up (Thx.same (Thx.same (Thx.same (Thx.same (Thx.same (Thx.f (Thx.f (Thx.f (Thx.f (Bth.thx hbb42) (by omega)) (by omega)) (by omega)) (by omega)) rfl) rfl) rfl) rfl) rfl) (show RhX (updR (updR R 2 (.ref pq)) 3 (.ref mq)) (updR (updR (updR (updR R 2 (.ref pq)) 3 (.ref mq)) 2 (.ref pq)) 3 (.ref mq)) from fun k9 hk9 => by unfold updR; simp only [show ¬ k9 = 1 by omega, show ¬ k9 = 2 by omega, show ¬ k9 = 3 by omega, show ¬ k9 = 4 by omega, if_false]) hux) hnt hlocks hce hcv hcl hP9 hD9 hS9 (by show 0 + 1 ≤ 1; omega) (by show 0 + 6 ≤ 6; omega))
    obtain ⟨w, K896, B897, cs898, as899, wt900, wf901, t902, Ag903, u904⟩ := u891
    obtain ⟨hw892, h905, h906, h907, h908, h909, h910, h911, h912, h913, h914, h915, h916, hO⟩ := hw892
    have h905 : SmW B7 B897 cs8 := h905
    have h906 : BdE K6 K896 := h906
    have h907 : BeF K6 K896 := h907
    have h908 : BeL K6 K896 none := h908
    have h909 : BeI K6 K896 g q2 := h909
    have h910 : Bth B7 B897 := h910
    have h911 : BeR B7 B897 := h911
    have h912 : t902 < 128 := h912
    have h913 : cs8 ≤ cs898 ∧ cs898 + 0 ≤ cs8 + 2 * tlE g q2 := h913
    have h914 : AsE as10 as899 ∧ AsE as10 wt900 ∧ AsE as10 wf901 := h914
    have h915 : (okA ∧ ¬ t13 = 63) → VaQ pb B7 B897 Ag14 Ag903 pd m9 sn lo cs8 cs898 as10 as899 wt900 wf901 hd sl (u15 :: os) t902 u904 (K6.2.1 0 q2) := h915
    have h916 : CaK (K6.2.1 0 q2) → cs898 + 2 ≤ cs8 + 2 * tlE g q2 := h916
    obtain rfl : v893 = some (.int (nI t902)) := hw892
    have hf917 : K896.1 pq = 7 := (BdE.T h906 hf28 (by decide))
    have hf918 : K896.2.2.1 18 pq = some (a 1) := (BdE.C h906 (by rw [hf28]; decide) 18).trans hf29
    have hf919 : K896.2.2.1 14 pq = some dr := (BdE.C h906 (by rw [hf28]; decide) 14).trans hf30
    have hf920 : K896.1 dr = 8 := (BdE.T h906 hf31 (by decide))
    have hf921 : K896.2.2.1 15 pq = some ml := (BdE.C h906 (by rw [hf28]; decide) 15).trans hf32
    have hf922 : K896.1 ml = 5 := (BdE.T h906 hf33 (by decide))
    have hf923 : K896.2.1 24 pq = (nI nd) := (BdE.I h906 (by rw [hf28]; decide) (by decide) (by decide)).trans hf34
    have hf924 : K896.1 q = 1 := (BdE.T h906 hf35 (by decide))
    have hf925 : K896.1 mq = 3 := (BdE.T h906 hf36 (by decide))
    have hf926 : K896.2.2.1 0 q = some q1 := (BdE.C h906 (by rw [hf35]; decide) 0).trans hf37
    have hf927 : K896.1 q1 = 1 := (BdE.T h906 hf38 (by decide))
    have hf928 : K896.2.2.1 1 q = some q2 := (BdE.C h906 (by rw [hf35]; decide) 1).trans hf39
    have hf929 : K896.1 q2 = 1 := (BdE.T h906 hf40 (by decide))
    have hO : OKP G h0 a (upd (upd (upd (upd (upd (upd (upd F 2 (nI sz)) 5 (nI cs898)) 7 (nI hd)) 12 (nI vr)) 13 as899) 14 wt900) 15 wf901) (updR (updR R 2 (.ref pq)) 3 (.ref mq)) Z B897 J K896 w := hO.to rfl
    refine W.widen (k := 0) (n := 0) (by show 0 + 0 ≤ 0; omega) (by show 0 + 0 ≤ 0; omega) ?_
    refine W.eq (g2 := F0 m 190 ls [.int (nI t902), .ref q2, .ref (a 4)]) rfl ?_
    have hbe930 := BdE.trans hbe41 h906
    have hbb931 : Bth B B897 := Bth.trans (show Thx (upd (upd (upd (upd (upd F 2 (nI sz)) 5 (nI cs)) 7 (nI hd)) 12 (nI vr)) 13 as9) (upd (upd (upd (upd (upd (upd (upd (upd (upd F 2 (nI sz)) 5 (nI cs)) 7 (nI hd)) 12 (nI vr)) 13 as9) 5 (nI cs8)) 13 as10) 14 wt11) 15 wf12) B B7 from (Thx.f (Thx.f (Thx.f (Thx.f (Bth.thx hbb42) (by omega)) (by omega)) (by omega)) (by omega))).2 h910
    have hng932 : Nng (B897 18) := h910.2 hng43
    have hsw933 : ∀ x9 : Nat, x9 < cs → (B897 16) x9 = B 16 x9 := fun x9 hx9 => ((h905 x9 (by omega)).1).trans (hsw44 x9 hx9)
    have hsw934 : ∀ x9 : Nat, x9 < cs → (B897 17) x9 = B 17 x9 := fun x9 hx9 => ((h905 x9 (by omega)).2.1).trans (hsw45 x9 hx9)
    have hsw935 : ∀ x9 : Nat, x9 < cs → (B897 18) x9 = B 18 x9 := fun x9 hx9 => ((h905 x9 (by omega)).2.2.1).trans (hsw46 x9 hx9)
    have hsw936 : ∀ x9 : Nat, x9 < cs → (B897 19) x9 = B 19 x9 := fun x9 hx9 => ((h905 x9 (by omega)).2.2.2).trans (hsw47 x9 hx9)
    have hbf937 := BeF.trans hbf48 h907 hbe41
    have hbl940 := BeL.trans hbl51 h908 hbe41
    have hbi941 := BeI.trans hbi52 h909 hbe41 hin1
    have hbr938 : BeR B B897 := BeR.trans hbr49 h911
    have hpt939 : ((okA ∧ ¬ t13 = 63) ∧ ¬ t902 = 63) → EvQ pb.1 pb.2.1 pb.2.2.1 pb.2.2.2 (B 16) (B 17) (B 18) (B 19) (B897 16) (B897 17) (B897 18) (B897 19) Ag Ag903 pd m9 sn lo cs cs898 as9 as899 hd sl (u904 :: (u15 :: os)) ∧ UTb u904 (nI t902) as899 wt900 wf901 := fun z => VaQ.part (B1 := B7) (hev53 z.1) (h915 z.1) h912 z.2
    have hev942 := fun z => (hpt939 z).1
    have has943 : AsE as9 as899 ∧ AsE as9 wt900 ∧ AsE as9 wf901 := ⟨AsE.trans has54.1 h914.1, AsE.trans has54.1 h914.2.1, AsE.trans has54.1 h914.2.2⟩
    refine lv_bipush (v := 60) hx hb dX0_sign_190 (by decide) ?_
    have hO : OKP G h0 a (upd (upd (upd (upd (upd (upd (upd (upd (upd (upd F 2 (nI sz)) 5 (nI cs)) 7 (nI hd)) 12 (nI vr)) 13 as9) 5 (nI cs898)) 13 as899) 14 wt900) 15 wf901) 2 (nI sz)) (updR (updR (updR R 2 (.ref pq)) 3 (.ref mq)) 2 (.ref pq)) Z B897 J K896 w := hO.to rfl
    obtain ⟨_, qr947, hqr948⟩ := hO.2.1 24 _ (sg_24 G h0 a _ _ _ _ _)
    refine pn_V0 (G := G) (As := [.ref q2, .int (nI t902), .int (nI 60)]) (rest := []) hx hb hml hown hq hE hX pX0_al hP hD hS hA hl.1 (Y_fit l G h0 a (upd (upd (upd (upd (upd (upd (upd (upd (upd F 2 (nI sz)) 5 (nI cs)) 7 (nI hd)) 12 (nI vr)) 13 as9) 5 (nI cs898)) 13 as899) 14 wt900) 15 wf901) (updR (updR R 2 (.ref pq)) 3 (.ref mq)) Z B897 J K896 w pq dr ml nd q2 sz t902 60 g pb (by omega) (BdE.pt hbe930 hwp hps).1 (BdE.pt hbe930 hwp hps).2.1 hf929 (by omega) hna.1.1 (NaB.be hbe930 hbf937 hwp hps.2.1 hdr0 (hbr938 11 (by decide)) hna).1.2.2 hO hl0) (gV pw_176 pw_177 pw_178 pw_63 pw_114) hV_X0_fit qr947 0 hqr948 rfl rfl rfl (Nat.le_of_ble_eq_true rfl) dX0_sign_192 ⟨(by show 0 + 1 ≤ 1; omega), (by show 0 + 6 ≤ 6; omega)⟩ ⟨(by show 7 + 1 ≤ (5 * n + 33); omega), (by show 8 + (4 + 11) + 122 ≤ (200 * n + 560); omega)⟩ (fun v946 u944 H locs hw945 hP hD hS => ?_) (fun ux ce9 q9 H9 locs9 hux hP9 hD9 hS9 hce hcv hcl => pb_out ux (ThQ.up (Thx.same (Thx.f (Thx.f (Thx.f (Thx.f (Bth.thx hbb931) (by omega)) (by omega)) (by omega)) (by omega)) rfl) (show RhX (updR (updR R 2 (.ref pq)) 3 (.ref mq)) (updR (updR (updR R 2 (.ref pq)) 3 (.ref mq)) 2 (.ref pq)) from fun k9 hk9 => by unfold updR; simp only [show ¬ k9 = 1 by omega, show ¬ k9 = 2 by omega, show ¬ k9 = 3 by omega, show ¬ k9 = 4 by omega, if_false]) hux) hnt hlocks hce hcv hcl hP9 hD9 hS9 (by show 0 + 1 ≤ 1; omega) (by show 0 + 6 ≤ 6; omega))
    obtain ⟨w, _⟩ := u944
    obtain ⟨hw945, h949, hO⟩ := hw945
    have h949 : FtQ pb t902 60 := h949
    obtain rfl : v946 = none := hw945
    have hO : OKP G h0 a (upd (upd (upd (upd (upd (upd (upd F 2 (nI sz)) 5 (nI cs898)) 7 (nI hd)) 12 (nI vr)) 13 as899) 14 wt900) 15 wf901) (updR (updR R 2 (.ref pq)) 3 (.ref mq)) Z B897 J K896 w := hO.to rfl
    refine W.widen (k := 0) (n := 0) (by show 0 + 0 ≤ 0; omega) (by show 0 + 0 ≤ 0; omega) ?_
    refine W.eq (g2 := F0 m 195 ls []) rfl ?_
    refine lv_iload_n hx hb dX0_sign_195 rfl (lv_at hl 3 rfl) ?_
    refine lv_bipush (v := 54) hx hb dX0_sign_196 (by decide) ?_
    refine lv_icmp_lt (tgt := 211) hx hb dX0_sign_198 (by decide) (fun c950 => absurd c950 (by decide)) (fun c950 => ?_)
    refine lv_iload_n hx hb dX0_sign_201 rfl (lv_at hl 3 rfl) ?_
    refine lv_bipush (v := 57) hx hb dX0_sign_202 (by decide) ?_
    refine lv_icmp_gt (tgt := 211) hx hb dX0_sign_204 (by decide) (fun c951 => absurd c951 (by decide)) (fun c951 => ?_)
    refine lv_iconst (v := 1) hx hb dX0_sign_207 (by decide) ?_
    refine lv_goto (tgt := 212) hx hb dX0_sign_208 (by decide) ?_
    refine lv_istore (lv' := [(4, .int 1), (3, .int (nI t13)), (0, .ref (a 4)), (1, .ref q), (2, .int 55)]) hx hb dX0_sign_212 hl (by decide) rfl (fun ls hl => ?_)
    refine lv_aload_n hx hb dX0_sign_214 rfl (lv_at hl 2 rfl) ?_
    refine lv_bipush (v := 10) hx hb dX0_sign_215 (by decide) ?_
    refine lv_iload_n hx hb dX0_sign_217 rfl (lv_at hl 4 rfl) ?_
    refine lv_iload hx hb dX0_sign_218 (lv_at hl 0 rfl) ?_
    refine lv_if_eq (tgt := 228) hx hb dX0_sign_220 (by decide) (fun c952 => absurd c952 (by decide)) (fun c952 => ?_)
    refine lv_bipush (v := 61) hx hb dX0_sign_223 (by decide) ?_
    refine lv_goto (tgt := 230) hx hb dX0_sign_225 (by decide) ?_
    have hut953 := fun z : okA => (hpt50 ⟨z, h890.1⟩).2
    have hut954 := fun z : okA => (hpt939 ⟨⟨z, h890.1⟩, h949.1⟩).2
    have hev955 := fun z : okA => hev942 ⟨⟨z, h890.1⟩, h949.1⟩
    have hfb := h949
    have hO : OKW G h0 a (upd (upd (upd (upd (upd (upd (upd (upd (upd F 2 (nI sz)) 5 (nI cs898)) 7 (nI hd)) 12 (nI vr)) 13 as899) 14 wt900) 15 wf901) 5 (nI cs898)) 7 (nI hd)) (updR (updR R 2 (.ref pq)) 3 (.ref mq)) Z B897 J K896.1 (fun q99 x99 => x99 = rep G a K896 q99) w := hO.to rfl
    obtain ⟨_, qr959, hqr960⟩ := hO.2.1 24 _ (sg_24 G h0 a _ _ _ _ _)
    refine pc_V0 (G := G) (As := [.int 10, .int 55, .int 61]) (rest := []) hx hb hml hown hq hE hX pX0_al hP hD hS hA hl.1 (Y_give l G h0 a (upd (upd (upd (upd (upd (upd (upd F 2 (nI sz)) 5 (nI cs898)) 7 (nI hd)) 12 (nI vr)) 13 as899) 14 wt900) 15 wf901) (updR (updR R 2 (.ref pq)) 3 (.ref mq)) Z B897 J K896.1 (fun q99 x99 => x99 = rep G a K896 q99) w 10 55 61 cs898 hd (by omega) hO) (gV pw_158 pw_159 pw_160 pw_63 pw_128) hV_X0_give qr959 0 hqr960 rfl rfl rfl (Nat.le_of_ble_eq_true rfl) dX0_sign_230 ⟨(by show 0 + 0 ≤ 1; omega), (by show 0 + 0 ≤ 6; omega)⟩ ⟨(by show 3 + 1 ≤ (5 * n + 33); omega), (by show 8 + (4 + 11) + 83 ≤ (200 * n + 560); omega)⟩ (fun v958 u956 H locs hw957 hP hD hS => ?_)
    obtain ⟨w, _⟩ := u956
    obtain ⟨hw957, hO⟩ := hw957
    obtain rfl : v958 = some (.int 61) := hw957
    have hO : OKP G h0 a (upd (upd (upd (upd (upd (upd (upd F 2 (nI sz)) 5 (nI (cs898 + 1))) 7 (nI hd)) 12 (nI vr)) 13 as899) 14 wt900) 15 wf901) (updR (updR R 2 (.ref pq)) 3 (.ref mq)) Z (updA (updA (updA (updA B897 16 (upd ((B897 16)) cs898 10)) 17 (upd ((B897 17)) cs898 55)) 18 (upd ((B897 18)) cs898 0)) 19 (upd ((B897 19)) cs898 (nI hd))) J K896 w := hO.to rfl
    refine W.widen (k := 0) (n := 0) (Nat.le_of_ble_eq_true rfl) (Nat.le_of_ble_eq_true rfl) ?_
    refine W.eq (g2 := F0 m 233 ls [.int 61]) rfl ?_
    have hsw961 : ∀ x9 : Nat, x9 < cs → (upd ((B897 16)) cs898 10) x9 = B 16 x9 := fun x9 hx9 => (if_neg (by omega)).trans (hsw933 x9 hx9)
    have hsw962 : ∀ x9 : Nat, x9 < cs → (upd ((B897 17)) cs898 55) x9 = B 17 x9 := fun x9 hx9 => (if_neg (by omega)).trans (hsw934 x9 hx9)
    have hsw963 : ∀ x9 : Nat, x9 < cs → (upd ((B897 18)) cs898 0) x9 = B 18 x9 := fun x9 hx9 => (if_neg (by omega)).trans (hsw935 x9 hx9)
    have hsw964 : ∀ x9 : Nat, x9 < cs → (upd ((B897 19)) cs898 (nI hd)) x9 = B 19 x9 := fun x9 hx9 => (if_neg (by omega)).trans (hsw936 x9 hx9)
    obtain ⟨Ag965, hev966⟩ : ∃ A5 : Nat → AS, okA → EvQ pb.1 pb.2.1 pb.2.2.1 pb.2.2.2 (B 16) (B 17) (B 18) (B 19) (upd ((B897 16)) cs898 10) (upd ((B897 17)) cs898 55) (upd ((B897 18)) cs898 0) (upd ((B897 19)) cs898 (nI hd)) Ag A5 pd m9 sn lo cs (cs898 + 1) as9 as899 hd sl (61 :: os) := ⟨(upS Ag903 (cs898 + 1) (rcA as899, hd, sl, (61 :: os))), fun z => (hev955 z).trans (EmS.sign (hev955 z).1 (by show os.length + 1 + 1 ≤ 248; omega) (SgT.cmp (by decide)))⟩
    have hng9 : Nng (upd ((B897 18)) cs898 0) := Nng.set hng932 (k := 0) (by omega)
    have hng967 := hng9
    refine W_size (fun hz1 hz2 => ?_)
    refine vx_ret ?_
    have hz968 : SmW B (updA (updA (updA (updA B897 16 (upd ((B897 16)) cs898 10)) 17 (upd ((B897 17)) cs898 55)) 18 (upd ((B897 18)) cs898 0)) 19 (upd ((B897 19)) cs898 (nI hd))) cs := (fun x9 hx9 => ⟨hsw961 x9 hx9, hsw962 x9 hx9, hsw963 x9 hx9, hsw964 x9 hx9⟩)
    have hz969 : BdE K K896 := hbe930
    have hz970 : BeF K K896 := hbf937
    have hz971 : BeL K K896 none := hbl940
    have hz972 : BeI K K896 g q := hbi941
    have hz973 : Bth B (updA (updA (updA (updA B897 16 (upd ((B897 16)) cs898 10)) 17 (upd ((B897 17)) cs898 55)) 18 (upd ((B897 18)) cs898 0)) 19 (upd ((B897 19)) cs898 (nI hd))) := (show Thx (upd (upd (upd (upd (upd F 2 (nI sz)) 5 (nI cs)) 7 (nI hd)) 12 (nI vr)) 13 as9) (upd (upd (upd (upd (upd (upd (upd (upd (upd F 2 (nI sz)) 5 (nI cs)) 7 (nI hd)) 12 (nI vr)) 13 as9) 5 (nI (cs898 + 1))) 13 as899) 14 wt900) 15 wf901) B (updA (updA (updA (updA B897 16 (upd ((B897 16)) cs898 10)) 17 (upd ((B897 17)) cs898 55)) 18 (upd ((B897 18)) cs898 0)) 19 (upd ((B897 19)) cs898 (nI hd))) from (Thx.b (Thx.b8 (Thx.b (Thx.b (Thx.f (Thx.f (Thx.f (Thx.f (Bth.thx hbb931) (by omega)) (by omega)) (by omega)) (by omega)) (by omega) (by decide)) (by omega) (by decide)) hng967) (by omega) (by decide))).2
    have hz974 : BeR B (updA (updA (updA (updA B897 16 (upd ((B897 16)) cs898 10)) 17 (upd ((B897 17)) cs898 55)) 18 (upd ((B897 18)) cs898 0)) 19 (upd ((B897 19)) cs898 (nI hd))) := (BeR.up (k := 19) (f := (upd ((B897 19)) cs898 (nI hd))) (BeR.up (k := 18) (f := (upd ((B897 18)) cs898 0)) (BeR.up (k := 17) (f := (upd ((B897 17)) cs898 55)) (BeR.up (k := 16) (f := (upd ((B897 16)) cs898 10)) hbr938 (by omega)) (by omega)) (by omega)) (by omega))
    have hz975 : 61 < 128 := (by omega)
    have hz976 : cs ≤ (cs898 + 1) ∧ (cs898 + 1) + 0 ≤ cs + 2 * tlE g q := (by omega)
    have hz977 : AsE as9 as899 := has943.1
    have hz978 : okA → PlQ pb B (updA (updA (updA (updA B897 16 (upd ((B897 16)) cs898 10)) 17 (upd ((B897 17)) cs898 55)) 18 (upd ((B897 18)) cs898 0)) 19 (upd ((B897 19)) cs898 (nI hd))) Ag Ag965 pd m9 sn lo cs (cs898 + 1) as9 as899 hd sl os 61 (K.2.1 0 q) := (fun z => Or.inr ⟨by rw [rsO_ne (by omega)]; exact hev966 z, by omega⟩)
    have hO : OKP G h0 a (upd (upd (upd (upd (upd (upd (upd F 2 (nI sz)) 5 (nI (cs898 + 1))) 7 (nI hd)) 12 (nI vr)) 13 as899) 14 wt900) 15 wf901) (updR (updR R 2 (.ref pq)) 3 (.ref mq)) Z (updA (updA (updA (updA B897 16 (upd ((B897 16)) cs898 10)) 17 (upd ((B897 17)) cs898 55)) 18 (upd ((B897 18)) cs898 0)) 19 (upd ((B897 19)) cs898 (nI hd))) J K896 w := hO.to rfl
    refine W.widen (k := 1) (n := 6) (by omega) (by omega) ?_
    have hzz1 : H.size ≤ s.heap.size + (0) := (by have z : 0 ≤ 0 := (by omega); omega)
    have hzz2 : hSl H ≤ hSl s.heap + (0) := (by have z : 0 ≤ 0 := (by omega); omega)
    exact W.iret (v := 61) hx hb hr (fun t99 ht99 hW99 => ⟨⟨_, (w, (K896, (updA (updA (updA (updA B897 16 (upd ((B897 16)) cs898 10)) 17 (upd ((B897 17)) cs898 55)) 18 (upd ((B897 18)) cs898 0)) 19 (upd ((B897 19)) cs898 (nI hd))), (cs898 + 1), as899, wt900, wf901, 61, Ag965)), rfl, ⟨rfl, hz968, hz969, hz970, hz971, hz972, hz973, hz974, hz975, hz976, hz977, hz978, hO⟩, by rw [ht99]; exact hP, hD, by rw [ht99]; exact hzz1, by rw [ht99]; exact hzz2⟩, hS.F ht99⟩) hS.2.2 dX0_sign_233
  by_cases h979 : x = 56
  · subst h979
    refine lv_tableIn (tgt := 166) (off := 156) hx hb dX0_sign_10 (by decide) (by decide) (by decide) (by decide) ?_
    refine lv_aload_n hx hb dX0_sign_166 rfl (lv_at hl 1 rfl) ?_
    refine lv_aload_n hx hb dX0_sign_167 rfl (lv_at hl 2 rfl) ?_
    refine p_get (v := .ref q1) (C := RX7) (Tc := TX7) (N := 11) (ci := 13) hx hb hq pin_wsX70 hown hE hP hO (by rw [hf35]; decide) (rep_1 hf35) rfl 6 (by decide) (hq _ pw_180) (fun _ h9 => h9) (congrArg (fun z => some (va_rf z)) hf37) dX0_sign_168 ?_
    refine lv_iload_n hx hb dX0_sign_171 rfl (lv_at hl 0 rfl) ?_
    refine lv_bipush (v := 60) hx hb dX0_sign_172 (by decide) ?_
    have hO : OKP G h0 a (upd (upd (upd (upd (upd (upd (upd (upd (upd (upd F 2 (nI sz)) 5 (nI cs)) 7 (nI hd)) 12 (nI vr)) 13 as9) 5 (nI cs8)) 13 as10) 14 wt11) 15 wf12) 2 (nI sz)) (updR (updR (updR R 2 (.ref pq)) 3 (.ref mq)) 2 (.ref pq)) Z B7 J K6 w := hO.to rfl
    obtain ⟨_, qr983, hqr984⟩ := hO.2.1 24 _ (sg_24 G h0 a _ _ _ _ _)
    refine pn_V0 (G := G) (As := [.ref q1, .int (nI t13), .int (nI 60)]) (rest := []) hx hb hml hown hq hE hX pX0_al hP hD hS hA hl.1 (Y_fit l G h0 a (upd (upd (upd (upd (upd (upd (upd (upd (upd F 2 (nI sz)) 5 (nI cs)) 7 (nI hd)) 12 (nI vr)) 13 as9) 5 (nI cs8)) 13 as10) 14 wt11) 15 wf12) (updR (updR R 2 (.ref pq)) 3 (.ref mq)) Z B7 J K6 w pq dr ml nd q1 sz t13 60 g pb (by omega) (BdE.pt hbe41 hwp hps).1 (BdE.pt hbe41 hwp hps).2.1 hf38 (by omega) hna.1.1 (NaB.be hbe41 hbf48 hwp hps.2.1 hdr0 (hbr49 11 (by decide)) hna).1.2.2 hO hl0) (gV pw_176 pw_177 pw_178 pw_63 pw_114) hV_X0_fit qr983 0 hqr984 rfl rfl rfl (Nat.le_of_ble_eq_true rfl) dX0_sign_174 ⟨(by show 0 + 1 ≤ 1; omega), (by show 0 + 6 ≤ 6; omega)⟩ ⟨(by show 7 + 1 ≤ (5 * n + 33); omega), (by show 8 + (4 + 11) + 122 ≤ (200 * n + 560); omega)⟩ (fun v982 u980 H locs hw981 hP hD hS => ?_) (fun ux ce9 q9 H9 locs9 hux hP9 hD9 hS9 hce hcv hcl => pb_out ux (ThQ.up (Thx.same (Thx.f (Thx.f (Thx.f (Thx.f (Bth.thx hbb42) (by omega)) (by omega)) (by omega)) (by omega)) rfl) (show RhX (updR (updR R 2 (.ref pq)) 3 (.ref mq)) (updR (updR (updR R 2 (.ref pq)) 3 (.ref mq)) 2 (.ref pq)) from fun k9 hk9 => by unfold updR; simp only [show ¬ k9 = 1 by omega, show ¬ k9 = 2 by omega, show ¬ k9 = 3 by omega, show ¬ k9 = 4 by omega, if_false]) hux) hnt hlocks hce hcv hcl hP9 hD9 hS9 (by show 0 + 1 ≤ 1; omega) (by show 0 + 6 ≤ 6; omega))
    obtain ⟨w, _⟩ := u980
    obtain ⟨hw981, h985, hO⟩ := hw981
    have h985 : FtQ pb t13 60 := h985
    obtain rfl : v982 = none := hw981
    have hO : OKP G h0 a (upd (upd (upd (upd (upd (upd (upd F 2 (nI sz)) 5 (nI cs8)) 7 (nI hd)) 12 (nI vr)) 13 as10) 14 wt11) 15 wf12) (updR (updR R 2 (.ref pq)) 3 (.ref mq)) Z B7 J K6 w := hO.to rfl
    refine W.widen (k := 0) (n := 0) (by show 0 + 0 ≤ 0; omega) (by show 0 + 0 ≤ 0; omega) ?_
    refine W.eq (g2 := F0 m 177 ls []) rfl ?_
    refine lv_aload_n hx hb dX0_sign_177 rfl (lv_at hl 1 rfl) ?_
    refine lv_aload_n hx hb dX0_sign_178 rfl (lv_at hl 2 rfl) ?_
    refine p_get (v := .ref q2) (C := RX7) (Tc := TX7) (N := 11) (ci := 13) hx hb hq pin_wsX70 hown hE hP hO (by rw [hf35]; decide) (rep_1 hf35) rfl 7 (by decide) (hq _ pw_169) (fun _ h9 => h9) (congrArg (fun z => some (va_rf z)) hf39) dX0_sign_179 ?_
    refine lv_aload_n hx hb dX0_sign_182 rfl (lv_at hl 1 rfl) ?_
    refine lv_aload_n hx hb dX0_sign_183 rfl (lv_at hl 2 rfl) ?_
    refine p_get (v := .ref q2) (C := RX7) (Tc := TX7) (N := 11) (ci := 13) hx hb hq pin_wsX70 hown hE hP hO (by rw [hf35]; decide) (rep_1 hf35) rfl 7 (by decide) (hq _ pw_169) (fun _ h9 => h9) (congrArg (fun z => some (va_rf z)) hf39) dX0_sign_184 ?_
    have hO : OKP G h0 a (upd (upd (upd (upd (upd (upd (upd (upd (upd (upd (upd (upd (upd (upd F 2 (nI sz)) 5 (nI cs)) 7 (nI hd)) 12 (nI vr)) 13 as9) 5 (nI cs8)) 13 as10) 14 wt11) 15 wf12) 2 (nI sz)) 5 (nI cs8)) 7 (nI hd)) 12 (nI vr)) 13 as10) (updR (updR (updR (updR R 2 (.ref pq)) 3 (.ref mq)) 2 (.ref pq)) 3 (.ref mq)) Z B7 J K6 w := hO.to rfl
    obtain ⟨_, qr989, hqr990⟩ := hO.2.1 24 _ (sg_24 G h0 a _ _ _ _ _)
    refine pn_V0 (G := G) (As := [.ref q2]) (rest := [.ref q2, .ref (a 4)]) hx hb hml hown hq hE hX pX0_al hP hD hS hA hl.1 ((ihv (by omega)) h0 a (upd (upd (upd (upd (upd (upd (upd (upd (upd F 2 (nI sz)) 5 (nI cs)) 7 (nI hd)) 12 (nI vr)) 13 as9) 5 (nI cs8)) 13 as10) 14 wt11) 15 wf12) (updR (updR R 2 (.ref pq)) 3 (.ref mq)) Z B7 J K6 w pq dr ml nd nm cp it s9 q2 mq cs8 vr sz g rk pb Ag14 pd sl (u15 :: os) m9 sn lo hd c0 as10 (okA ∧ ¬ t13 = 63) (by omega) (BdE.wp hbe41 hwp) (BdE.pt hbe41 hwp hps) (BdE.rko hbe41 hrk) (by omega) (by omega) hng43 hf36 hf40 ⟨hv1.1, (by have z9 := hv1; omega)⟩ (EkA.be hbe41 (hbr49 7 (by decide)) (hbr49 11 (by decide)) hek) (OwC.be hbe41 hmq hdr0 hcO) (NaB.be hbe41 hbf48 hwp hps.2.1 hdr0 (hbr49 11 (by decide)) hna) (EnV.of (hbr49 26 (by decide)) (hbr49 27 (by decide)) hen) (fun z => (hev53 z).1) (by omega) (by show os.length + 1 + ndE g q2 ≤ 248; omega) hlf1 hO hl0) (gV pw_173 pw_174 pw_175 pw_63 pw_224) hV_X0_value qr989 0 hqr990 rfl rfl rfl (Nat.le_of_ble_eq_true rfl) dX0_sign_187 ⟨(by show 0 + 1 ≤ 1; omega), (by show 0 + 6 ≤ 6; omega)⟩ ⟨(by show (5 * (n - 1) + 34) + 1 ≤ (5 * n + 33); omega), (by show 8 + (3 + 11) + (200 * (n - 1) + 600) ≤ (200 * n + 560); omega)⟩ (fun v988 u986 H locs hw987 hP hD hS => ?_) (fun ux ce9 q9 H9 locs9 hux hP9 hD9 hS9 hce hcv hcl => pb_out ux (ThQ.up (Thx.same (Thx.same (Thx.same (Thx.same (Thx.same (Thx.f (Thx.f (Thx.f (Thx.f (Bth.thx hbb42) (by omega)) (by omega)) (by omega)) (by omega)) rfl) rfl) rfl) rfl) rfl) (show RhX (updR (updR R 2 (.ref pq)) 3 (.ref mq)) (updR (updR (updR (updR R 2 (.ref pq)) 3 (.ref mq)) 2 (.ref pq)) 3 (.ref mq)) from fun k9 hk9 => by unfold updR; simp only [show ¬ k9 = 1 by omega, show ¬ k9 = 2 by omega, show ¬ k9 = 3 by omega, show ¬ k9 = 4 by omega, if_false]) hux) hnt hlocks hce hcv hcl hP9 hD9 hS9 (by show 0 + 1 ≤ 1; omega) (by show 0 + 6 ≤ 6; omega))
    obtain ⟨w, K991, B992, cs993, as994, wt995, wf996, t997, Ag998, u999⟩ := u986
    obtain ⟨hw987, h1000, h1001, h1002, h1003, h1004, h1005, h1006, h1007, h1008, h1009, h1010, h1011, hO⟩ := hw987
    have h1000 : SmW B7 B992 cs8 := h1000
    have h1001 : BdE K6 K991 := h1001
    have h1002 : BeF K6 K991 := h1002
    have h1003 : BeL K6 K991 none := h1003
    have h1004 : BeI K6 K991 g q2 := h1004
    have h1005 : Bth B7 B992 := h1005
    have h1006 : BeR B7 B992 := h1006
    have h1007 : t997 < 128 := h1007
    have h1008 : cs8 ≤ cs993 ∧ cs993 + 0 ≤ cs8 + 2 * tlE g q2 := h1008
    have h1009 : AsE as10 as994 ∧ AsE as10 wt995 ∧ AsE as10 wf996 := h1009
    have h1010 : (okA ∧ ¬ t13 = 63) → VaQ pb B7 B992 Ag14 Ag998 pd m9 sn lo cs8 cs993 as10 as994 wt995 wf996 hd sl (u15 :: os) t997 u999 (K6.2.1 0 q2) := h1010
    have h1011 : CaK (K6.2.1 0 q2) → cs993 + 2 ≤ cs8 + 2 * tlE g q2 := h1011
    obtain rfl : v988 = some (.int (nI t997)) := hw987
    have hf1012 : K991.1 pq = 7 := (BdE.T h1001 hf28 (by decide))
    have hf1013 : K991.2.2.1 18 pq = some (a 1) := (BdE.C h1001 (by rw [hf28]; decide) 18).trans hf29
    have hf1014 : K991.2.2.1 14 pq = some dr := (BdE.C h1001 (by rw [hf28]; decide) 14).trans hf30
    have hf1015 : K991.1 dr = 8 := (BdE.T h1001 hf31 (by decide))
    have hf1016 : K991.2.2.1 15 pq = some ml := (BdE.C h1001 (by rw [hf28]; decide) 15).trans hf32
    have hf1017 : K991.1 ml = 5 := (BdE.T h1001 hf33 (by decide))
    have hf1018 : K991.2.1 24 pq = (nI nd) := (BdE.I h1001 (by rw [hf28]; decide) (by decide) (by decide)).trans hf34
    have hf1019 : K991.1 q = 1 := (BdE.T h1001 hf35 (by decide))
    have hf1020 : K991.1 mq = 3 := (BdE.T h1001 hf36 (by decide))
    have hf1021 : K991.2.2.1 0 q = some q1 := (BdE.C h1001 (by rw [hf35]; decide) 0).trans hf37
    have hf1022 : K991.1 q1 = 1 := (BdE.T h1001 hf38 (by decide))
    have hf1023 : K991.2.2.1 1 q = some q2 := (BdE.C h1001 (by rw [hf35]; decide) 1).trans hf39
    have hf1024 : K991.1 q2 = 1 := (BdE.T h1001 hf40 (by decide))
    have hO : OKP G h0 a (upd (upd (upd (upd (upd (upd (upd F 2 (nI sz)) 5 (nI cs993)) 7 (nI hd)) 12 (nI vr)) 13 as994) 14 wt995) 15 wf996) (updR (updR R 2 (.ref pq)) 3 (.ref mq)) Z B992 J K991 w := hO.to rfl
    refine W.widen (k := 0) (n := 0) (by show 0 + 0 ≤ 0; omega) (by show 0 + 0 ≤ 0; omega) ?_
    refine W.eq (g2 := F0 m 190 ls [.int (nI t997), .ref q2, .ref (a 4)]) rfl ?_
    have hbe1025 := BdE.trans hbe41 h1001
    have hbb1026 : Bth B B992 := Bth.trans (show Thx (upd (upd (upd (upd (upd F 2 (nI sz)) 5 (nI cs)) 7 (nI hd)) 12 (nI vr)) 13 as9) (upd (upd (upd (upd (upd (upd (upd (upd (upd F 2 (nI sz)) 5 (nI cs)) 7 (nI hd)) 12 (nI vr)) 13 as9) 5 (nI cs8)) 13 as10) 14 wt11) 15 wf12) B B7 from (Thx.f (Thx.f (Thx.f (Thx.f (Bth.thx hbb42) (by omega)) (by omega)) (by omega)) (by omega))).2 h1005
    have hng1027 : Nng (B992 18) := h1005.2 hng43
    have hsw1028 : ∀ x9 : Nat, x9 < cs → (B992 16) x9 = B 16 x9 := fun x9 hx9 => ((h1000 x9 (by omega)).1).trans (hsw44 x9 hx9)
    have hsw1029 : ∀ x9 : Nat, x9 < cs → (B992 17) x9 = B 17 x9 := fun x9 hx9 => ((h1000 x9 (by omega)).2.1).trans (hsw45 x9 hx9)
    have hsw1030 : ∀ x9 : Nat, x9 < cs → (B992 18) x9 = B 18 x9 := fun x9 hx9 => ((h1000 x9 (by omega)).2.2.1).trans (hsw46 x9 hx9)
    have hsw1031 : ∀ x9 : Nat, x9 < cs → (B992 19) x9 = B 19 x9 := fun x9 hx9 => ((h1000 x9 (by omega)).2.2.2).trans (hsw47 x9 hx9)
    have hbf1032 := BeF.trans hbf48 h1002 hbe41
    have hbl1035 := BeL.trans hbl51 h1003 hbe41
    have hbi1036 := BeI.trans hbi52 h1004 hbe41 hin1
    have hbr1033 : BeR B B992 := BeR.trans hbr49 h1006
    have hpt1034 : ((okA ∧ ¬ t13 = 63) ∧ ¬ t997 = 63) → EvQ pb.1 pb.2.1 pb.2.2.1 pb.2.2.2 (B 16) (B 17) (B 18) (B 19) (B992 16) (B992 17) (B992 18) (B992 19) Ag Ag998 pd m9 sn lo cs cs993 as9 as994 hd sl (u999 :: (u15 :: os)) ∧ UTb u999 (nI t997) as994 wt995 wf996 := fun z => VaQ.part (B1 := B7) (hev53 z.1) (h1010 z.1) h1007 z.2
    have hev1037 := fun z => (hpt1034 z).1
    have has1038 : AsE as9 as994 ∧ AsE as9 wt995 ∧ AsE as9 wf996 := ⟨AsE.trans has54.1 h1009.1, AsE.trans has54.1 h1009.2.1, AsE.trans has54.1 h1009.2.2⟩
    refine lv_bipush (v := 60) hx hb dX0_sign_190 (by decide) ?_
    have hO : OKP G h0 a (upd (upd (upd (upd (upd (upd (upd (upd (upd (upd F 2 (nI sz)) 5 (nI cs)) 7 (nI hd)) 12 (nI vr)) 13 as9) 5 (nI cs993)) 13 as994) 14 wt995) 15 wf996) 2 (nI sz)) (updR (updR (updR R 2 (.ref pq)) 3 (.ref mq)) 2 (.ref pq)) Z B992 J K991 w := hO.to rfl
    obtain ⟨_, qr1042, hqr1043⟩ := hO.2.1 24 _ (sg_24 G h0 a _ _ _ _ _)
    refine pn_V0 (G := G) (As := [.ref q2, .int (nI t997), .int (nI 60)]) (rest := []) hx hb hml hown hq hE hX pX0_al hP hD hS hA hl.1 (Y_fit l G h0 a (upd (upd (upd (upd (upd (upd (upd (upd (upd F 2 (nI sz)) 5 (nI cs)) 7 (nI hd)) 12 (nI vr)) 13 as9) 5 (nI cs993)) 13 as994) 14 wt995) 15 wf996) (updR (updR R 2 (.ref pq)) 3 (.ref mq)) Z B992 J K991 w pq dr ml nd q2 sz t997 60 g pb (by omega) (BdE.pt hbe1025 hwp hps).1 (BdE.pt hbe1025 hwp hps).2.1 hf1024 (by omega) hna.1.1 (NaB.be hbe1025 hbf1032 hwp hps.2.1 hdr0 (hbr1033 11 (by decide)) hna).1.2.2 hO hl0) (gV pw_176 pw_177 pw_178 pw_63 pw_114) hV_X0_fit qr1042 0 hqr1043 rfl rfl rfl (Nat.le_of_ble_eq_true rfl) dX0_sign_192 ⟨(by show 0 + 1 ≤ 1; omega), (by show 0 + 6 ≤ 6; omega)⟩ ⟨(by show 7 + 1 ≤ (5 * n + 33); omega), (by show 8 + (4 + 11) + 122 ≤ (200 * n + 560); omega)⟩ (fun v1041 u1039 H locs hw1040 hP hD hS => ?_) (fun ux ce9 q9 H9 locs9 hux hP9 hD9 hS9 hce hcv hcl => pb_out ux (ThQ.up (Thx.same (Thx.f (Thx.f (Thx.f (Thx.f (Bth.thx hbb1026) (by omega)) (by omega)) (by omega)) (by omega)) rfl) (show RhX (updR (updR R 2 (.ref pq)) 3 (.ref mq)) (updR (updR (updR R 2 (.ref pq)) 3 (.ref mq)) 2 (.ref pq)) from fun k9 hk9 => by unfold updR; simp only [show ¬ k9 = 1 by omega, show ¬ k9 = 2 by omega, show ¬ k9 = 3 by omega, show ¬ k9 = 4 by omega, if_false]) hux) hnt hlocks hce hcv hcl hP9 hD9 hS9 (by show 0 + 1 ≤ 1; omega) (by show 0 + 6 ≤ 6; omega))
    obtain ⟨w, _⟩ := u1039
    obtain ⟨hw1040, h1044, hO⟩ := hw1040
    have h1044 : FtQ pb t997 60 := h1044
    obtain rfl : v1041 = none := hw1040
    have hO : OKP G h0 a (upd (upd (upd (upd (upd (upd (upd F 2 (nI sz)) 5 (nI cs993)) 7 (nI hd)) 12 (nI vr)) 13 as994) 14 wt995) 15 wf996) (updR (updR R 2 (.ref pq)) 3 (.ref mq)) Z B992 J K991 w := hO.to rfl
    refine W.widen (k := 0) (n := 0) (by show 0 + 0 ≤ 0; omega) (by show 0 + 0 ≤ 0; omega) ?_
    refine W.eq (g2 := F0 m 195 ls []) rfl ?_
    refine lv_iload_n hx hb dX0_sign_195 rfl (lv_at hl 3 rfl) ?_
    refine lv_bipush (v := 54) hx hb dX0_sign_196 (by decide) ?_
    refine lv_icmp_lt (tgt := 211) hx hb dX0_sign_198 (by decide) (fun c1045 => absurd c1045 (by decide)) (fun c1045 => ?_)
    refine lv_iload_n hx hb dX0_sign_201 rfl (lv_at hl 3 rfl) ?_
    refine lv_bipush (v := 57) hx hb dX0_sign_202 (by decide) ?_
    refine lv_icmp_gt (tgt := 211) hx hb dX0_sign_204 (by decide) (fun c1046 => absurd c1046 (by decide)) (fun c1046 => ?_)
    refine lv_iconst (v := 1) hx hb dX0_sign_207 (by decide) ?_
    refine lv_goto (tgt := 212) hx hb dX0_sign_208 (by decide) ?_
    refine lv_istore (lv' := [(4, .int 1), (3, .int (nI t13)), (0, .ref (a 4)), (1, .ref q), (2, .int 56)]) hx hb dX0_sign_212 hl (by decide) rfl (fun ls hl => ?_)
    refine lv_aload_n hx hb dX0_sign_214 rfl (lv_at hl 2 rfl) ?_
    refine lv_bipush (v := 10) hx hb dX0_sign_215 (by decide) ?_
    refine lv_iload_n hx hb dX0_sign_217 rfl (lv_at hl 4 rfl) ?_
    refine lv_iload hx hb dX0_sign_218 (lv_at hl 0 rfl) ?_
    refine lv_if_eq (tgt := 228) hx hb dX0_sign_220 (by decide) (fun c1047 => absurd c1047 (by decide)) (fun c1047 => ?_)
    refine lv_bipush (v := 61) hx hb dX0_sign_223 (by decide) ?_
    refine lv_goto (tgt := 230) hx hb dX0_sign_225 (by decide) ?_
    have hut1048 := fun z : okA => (hpt50 ⟨z, h985.1⟩).2
    have hut1049 := fun z : okA => (hpt1034 ⟨⟨z, h985.1⟩, h1044.1⟩).2
    have hev1050 := fun z : okA => hev1037 ⟨⟨z, h985.1⟩, h1044.1⟩
    have hfb := h1044
    have hO : OKW G h0 a (upd (upd (upd (upd (upd (upd (upd (upd (upd F 2 (nI sz)) 5 (nI cs993)) 7 (nI hd)) 12 (nI vr)) 13 as994) 14 wt995) 15 wf996) 5 (nI cs993)) 7 (nI hd)) (updR (updR R 2 (.ref pq)) 3 (.ref mq)) Z B992 J K991.1 (fun q99 x99 => x99 = rep G a K991 q99) w := hO.to rfl
    obtain ⟨_, qr1054, hqr1055⟩ := hO.2.1 24 _ (sg_24 G h0 a _ _ _ _ _)
    refine pc_V0 (G := G) (As := [.int 10, .int 56, .int 61]) (rest := []) hx hb hml hown hq hE hX pX0_al hP hD hS hA hl.1 (Y_give l G h0 a (upd (upd (upd (upd (upd (upd (upd F 2 (nI sz)) 5 (nI cs993)) 7 (nI hd)) 12 (nI vr)) 13 as994) 14 wt995) 15 wf996) (updR (updR R 2 (.ref pq)) 3 (.ref mq)) Z B992 J K991.1 (fun q99 x99 => x99 = rep G a K991 q99) w 10 56 61 cs993 hd (by omega) hO) (gV pw_158 pw_159 pw_160 pw_63 pw_128) hV_X0_give qr1054 0 hqr1055 rfl rfl rfl (Nat.le_of_ble_eq_true rfl) dX0_sign_230 ⟨(by show 0 + 0 ≤ 1; omega), (by show 0 + 0 ≤ 6; omega)⟩ ⟨(by show 3 + 1 ≤ (5 * n + 33); omega), (by show 8 + (4 + 11) + 83 ≤ (200 * n + 560); omega)⟩ (fun v1053 u1051 H locs hw1052 hP hD hS => ?_)
    obtain ⟨w, _⟩ := u1051
    obtain ⟨hw1052, hO⟩ := hw1052
    obtain rfl : v1053 = some (.int 61) := hw1052
    have hO : OKP G h0 a (upd (upd (upd (upd (upd (upd (upd F 2 (nI sz)) 5 (nI (cs993 + 1))) 7 (nI hd)) 12 (nI vr)) 13 as994) 14 wt995) 15 wf996) (updR (updR R 2 (.ref pq)) 3 (.ref mq)) Z (updA (updA (updA (updA B992 16 (upd ((B992 16)) cs993 10)) 17 (upd ((B992 17)) cs993 56)) 18 (upd ((B992 18)) cs993 0)) 19 (upd ((B992 19)) cs993 (nI hd))) J K991 w := hO.to rfl
    refine W.widen (k := 0) (n := 0) (Nat.le_of_ble_eq_true rfl) (Nat.le_of_ble_eq_true rfl) ?_
    refine W.eq (g2 := F0 m 233 ls [.int 61]) rfl ?_
    have hsw1056 : ∀ x9 : Nat, x9 < cs → (upd ((B992 16)) cs993 10) x9 = B 16 x9 := fun x9 hx9 => (if_neg (by omega)).trans (hsw1028 x9 hx9)
    have hsw1057 : ∀ x9 : Nat, x9 < cs → (upd ((B992 17)) cs993 56) x9 = B 17 x9 := fun x9 hx9 => (if_neg (by omega)).trans (hsw1029 x9 hx9)
    have hsw1058 : ∀ x9 : Nat, x9 < cs → (upd ((B992 18)) cs993 0) x9 = B 18 x9 := fun x9 hx9 => (if_neg (by omega)).trans (hsw1030 x9 hx9)
    have hsw1059 : ∀ x9 : Nat, x9 < cs → (upd ((B992 19)) cs993 (nI hd)) x9 = B 19 x9 := fun x9 hx9 => (if_neg (by omega)).trans (hsw1031 x9 hx9)
    obtain ⟨Ag1060, hev1061⟩ : ∃ A5 : Nat → AS, okA → EvQ pb.1 pb.2.1 pb.2.2.1 pb.2.2.2 (B 16) (B 17) (B 18) (B 19) (upd ((B992 16)) cs993 10) (upd ((B992 17)) cs993 56) (upd ((B992 18)) cs993 0) (upd ((B992 19)) cs993 (nI hd)) Ag A5 pd m9 sn lo cs (cs993 + 1) as9 as994 hd sl (61 :: os) := ⟨(upS Ag998 (cs993 + 1) (rcA as994, hd, sl, (61 :: os))), fun z => (hev1050 z).trans (EmS.sign (hev1050 z).1 (by show os.length + 1 + 1 ≤ 248; omega) (SgT.cmp (by decide)))⟩
    have hng9 : Nng (upd ((B992 18)) cs993 0) := Nng.set hng1027 (k := 0) (by omega)
    have hng1062 := hng9
    refine W_size (fun hz1 hz2 => ?_)
    refine vx_ret ?_
    have hz1063 : SmW B (updA (updA (updA (updA B992 16 (upd ((B992 16)) cs993 10)) 17 (upd ((B992 17)) cs993 56)) 18 (upd ((B992 18)) cs993 0)) 19 (upd ((B992 19)) cs993 (nI hd))) cs := (fun x9 hx9 => ⟨hsw1056 x9 hx9, hsw1057 x9 hx9, hsw1058 x9 hx9, hsw1059 x9 hx9⟩)
    have hz1064 : BdE K K991 := hbe1025
    have hz1065 : BeF K K991 := hbf1032
    have hz1066 : BeL K K991 none := hbl1035
    have hz1067 : BeI K K991 g q := hbi1036
    have hz1068 : Bth B (updA (updA (updA (updA B992 16 (upd ((B992 16)) cs993 10)) 17 (upd ((B992 17)) cs993 56)) 18 (upd ((B992 18)) cs993 0)) 19 (upd ((B992 19)) cs993 (nI hd))) := (show Thx (upd (upd (upd (upd (upd F 2 (nI sz)) 5 (nI cs)) 7 (nI hd)) 12 (nI vr)) 13 as9) (upd (upd (upd (upd (upd (upd (upd (upd (upd F 2 (nI sz)) 5 (nI cs)) 7 (nI hd)) 12 (nI vr)) 13 as9) 5 (nI (cs993 + 1))) 13 as994) 14 wt995) 15 wf996) B (updA (updA (updA (updA B992 16 (upd ((B992 16)) cs993 10)) 17 (upd ((B992 17)) cs993 56)) 18 (upd ((B992 18)) cs993 0)) 19 (upd ((B992 19)) cs993 (nI hd))) from (Thx.b (Thx.b8 (Thx.b (Thx.b (Thx.f (Thx.f (Thx.f (Thx.f (Bth.thx hbb1026) (by omega)) (by omega)) (by omega)) (by omega)) (by omega) (by decide)) (by omega) (by decide)) hng1062) (by omega) (by decide))).2
    have hz1069 : BeR B (updA (updA (updA (updA B992 16 (upd ((B992 16)) cs993 10)) 17 (upd ((B992 17)) cs993 56)) 18 (upd ((B992 18)) cs993 0)) 19 (upd ((B992 19)) cs993 (nI hd))) := (BeR.up (k := 19) (f := (upd ((B992 19)) cs993 (nI hd))) (BeR.up (k := 18) (f := (upd ((B992 18)) cs993 0)) (BeR.up (k := 17) (f := (upd ((B992 17)) cs993 56)) (BeR.up (k := 16) (f := (upd ((B992 16)) cs993 10)) hbr1033 (by omega)) (by omega)) (by omega)) (by omega))
    have hz1070 : 61 < 128 := (by omega)
    have hz1071 : cs ≤ (cs993 + 1) ∧ (cs993 + 1) + 0 ≤ cs + 2 * tlE g q := (by omega)
    have hz1072 : AsE as9 as994 := has1038.1
    have hz1073 : okA → PlQ pb B (updA (updA (updA (updA B992 16 (upd ((B992 16)) cs993 10)) 17 (upd ((B992 17)) cs993 56)) 18 (upd ((B992 18)) cs993 0)) 19 (upd ((B992 19)) cs993 (nI hd))) Ag Ag1060 pd m9 sn lo cs (cs993 + 1) as9 as994 hd sl os 61 (K.2.1 0 q) := (fun z => Or.inr ⟨by rw [rsO_ne (by omega)]; exact hev1061 z, by omega⟩)
    have hO : OKP G h0 a (upd (upd (upd (upd (upd (upd (upd F 2 (nI sz)) 5 (nI (cs993 + 1))) 7 (nI hd)) 12 (nI vr)) 13 as994) 14 wt995) 15 wf996) (updR (updR R 2 (.ref pq)) 3 (.ref mq)) Z (updA (updA (updA (updA B992 16 (upd ((B992 16)) cs993 10)) 17 (upd ((B992 17)) cs993 56)) 18 (upd ((B992 18)) cs993 0)) 19 (upd ((B992 19)) cs993 (nI hd))) J K991 w := hO.to rfl
    refine W.widen (k := 1) (n := 6) (by omega) (by omega) ?_
    have hzz1 : H.size ≤ s.heap.size + (0) := (by have z : 0 ≤ 0 := (by omega); omega)
    have hzz2 : hSl H ≤ hSl s.heap + (0) := (by have z : 0 ≤ 0 := (by omega); omega)
    exact W.iret (v := 61) hx hb hr (fun t99 ht99 hW99 => ⟨⟨_, (w, (K991, (updA (updA (updA (updA B992 16 (upd ((B992 16)) cs993 10)) 17 (upd ((B992 17)) cs993 56)) 18 (upd ((B992 18)) cs993 0)) 19 (upd ((B992 19)) cs993 (nI hd))), (cs993 + 1), as994, wt995, wf996, 61, Ag1060)), rfl, ⟨rfl, hz1063, hz1064, hz1065, hz1066, hz1067, hz1068, hz1069, hz1070, hz1071, hz1072, hz1073, hO⟩, by rw [ht99]; exact hP, hD, by rw [ht99]; exact hzz1, by rw [ht99]; exact hzz2⟩, hS.F ht99⟩) hS.2.2 dX0_sign_233
  by_cases h1074 : x = 57
  · subst h1074
    refine lv_tableIn (tgt := 166) (off := 156) hx hb dX0_sign_10 (by decide) (by decide) (by decide) (by decide) ?_
    refine lv_aload_n hx hb dX0_sign_166 rfl (lv_at hl 1 rfl) ?_
    refine lv_aload_n hx hb dX0_sign_167 rfl (lv_at hl 2 rfl) ?_
    refine p_get (v := .ref q1) (C := RX7) (Tc := TX7) (N := 11) (ci := 13) hx hb hq pin_wsX70 hown hE hP hO (by rw [hf35]; decide) (rep_1 hf35) rfl 6 (by decide) (hq _ pw_180) (fun _ h9 => h9) (congrArg (fun z => some (va_rf z)) hf37) dX0_sign_168 ?_
    refine lv_iload_n hx hb dX0_sign_171 rfl (lv_at hl 0 rfl) ?_
    refine lv_bipush (v := 60) hx hb dX0_sign_172 (by decide) ?_
    have hO : OKP G h0 a (upd (upd (upd (upd (upd (upd (upd (upd (upd (upd F 2 (nI sz)) 5 (nI cs)) 7 (nI hd)) 12 (nI vr)) 13 as9) 5 (nI cs8)) 13 as10) 14 wt11) 15 wf12) 2 (nI sz)) (updR (updR (updR R 2 (.ref pq)) 3 (.ref mq)) 2 (.ref pq)) Z B7 J K6 w := hO.to rfl
    obtain ⟨_, qr1078, hqr1079⟩ := hO.2.1 24 _ (sg_24 G h0 a _ _ _ _ _)
    refine pn_V0 (G := G) (As := [.ref q1, .int (nI t13), .int (nI 60)]) (rest := []) hx hb hml hown hq hE hX pX0_al hP hD hS hA hl.1 (Y_fit l G h0 a (upd (upd (upd (upd (upd (upd (upd (upd (upd F 2 (nI sz)) 5 (nI cs)) 7 (nI hd)) 12 (nI vr)) 13 as9) 5 (nI cs8)) 13 as10) 14 wt11) 15 wf12) (updR (updR R 2 (.ref pq)) 3 (.ref mq)) Z B7 J K6 w pq dr ml nd q1 sz t13 60 g pb (by omega) (BdE.pt hbe41 hwp hps).1 (BdE.pt hbe41 hwp hps).2.1 hf38 (by omega) hna.1.1 (NaB.be hbe41 hbf48 hwp hps.2.1 hdr0 (hbr49 11 (by decide)) hna).1.2.2 hO hl0) (gV pw_176 pw_177 pw_178 pw_63 pw_114) hV_X0_fit qr1078 0 hqr1079 rfl rfl rfl (Nat.le_of_ble_eq_true rfl) dX0_sign_174 ⟨(by show 0 + 1 ≤ 1; omega), (by show 0 + 6 ≤ 6; omega)⟩ ⟨(by show 7 + 1 ≤ (5 * n + 33); omega), (by show 8 + (4 + 11) + 122 ≤ (200 * n + 560); omega)⟩ (fun v1077 u1075 H locs hw1076 hP hD hS => ?_) (fun ux ce9 q9 H9 locs9 hux hP9 hD9 hS9 hce hcv hcl => pb_out ux (ThQ.up (Thx.same (Thx.f (Thx.f (Thx.f (Thx.f (Bth.thx hbb42) (by omega)) (by omega)) (by omega)) (by omega)) rfl) (show RhX (updR (updR R 2 (.ref pq)) 3 (.ref mq)) (updR (updR (updR R 2 (.ref pq)) 3 (.ref mq)) 2 (.ref pq)) from fun k9 hk9 => by unfold updR; simp only [show ¬ k9 = 1 by omega, show ¬ k9 = 2 by omega, show ¬ k9 = 3 by omega, show ¬ k9 = 4 by omega, if_false]) hux) hnt hlocks hce hcv hcl hP9 hD9 hS9 (by show 0 + 1 ≤ 1; omega) (by show 0 + 6 ≤ 6; omega))
    obtain ⟨w, _⟩ := u1075
    obtain ⟨hw1076, h1080, hO⟩ := hw1076
    have h1080 : FtQ pb t13 60 := h1080
    obtain rfl : v1077 = none := hw1076
    have hO : OKP G h0 a (upd (upd (upd (upd (upd (upd (upd F 2 (nI sz)) 5 (nI cs8)) 7 (nI hd)) 12 (nI vr)) 13 as10) 14 wt11) 15 wf12) (updR (updR R 2 (.ref pq)) 3 (.ref mq)) Z B7 J K6 w := hO.to rfl
    refine W.widen (k := 0) (n := 0) (by show 0 + 0 ≤ 0; omega) (by show 0 + 0 ≤ 0; omega) ?_
    refine W.eq (g2 := F0 m 177 ls []) rfl ?_
    refine lv_aload_n hx hb dX0_sign_177 rfl (lv_at hl 1 rfl) ?_
    refine lv_aload_n hx hb dX0_sign_178 rfl (lv_at hl 2 rfl) ?_
    refine p_get (v := .ref q2) (C := RX7) (Tc := TX7) (N := 11) (ci := 13) hx hb hq pin_wsX70 hown hE hP hO (by rw [hf35]; decide) (rep_1 hf35) rfl 7 (by decide) (hq _ pw_169) (fun _ h9 => h9) (congrArg (fun z => some (va_rf z)) hf39) dX0_sign_179 ?_
    refine lv_aload_n hx hb dX0_sign_182 rfl (lv_at hl 1 rfl) ?_
    refine lv_aload_n hx hb dX0_sign_183 rfl (lv_at hl 2 rfl) ?_
    refine p_get (v := .ref q2) (C := RX7) (Tc := TX7) (N := 11) (ci := 13) hx hb hq pin_wsX70 hown hE hP hO (by rw [hf35]; decide) (rep_1 hf35) rfl 7 (by decide) (hq _ pw_169) (fun _ h9 => h9) (congrArg (fun z => some (va_rf z)) hf39) dX0_sign_184 ?_
    have hO : OKP G h0 a (upd (upd (upd (upd (upd (upd (upd (upd (upd (upd (upd (upd (upd (upd F 2 (nI sz)) 5 (nI cs)) 7 (nI hd)) 12 (nI vr)) 13 as9) 5 (nI cs8)) 13 as10) 14 wt11) 15 wf12) 2 (nI sz)) 5 (nI cs8)) 7 (nI hd)) 12 (nI vr)) 13 as10) (updR (updR (updR (updR R 2 (.ref pq)) 3 (.ref mq)) 2 (.ref pq)) 3 (.ref mq)) Z B7 J K6 w := hO.to rfl
    obtain ⟨_, qr1084, hqr1085⟩ := hO.2.1 24 _ (sg_24 G h0 a _ _ _ _ _)
    refine pn_V0 (G := G) (As := [.ref q2]) (rest := [.ref q2, .ref (a 4)]) hx hb hml hown hq hE hX pX0_al hP hD hS hA hl.1 ((ihv (by omega)) h0 a (upd (upd (upd (upd (upd (upd (upd (upd (upd F 2 (nI sz)) 5 (nI cs)) 7 (nI hd)) 12 (nI vr)) 13 as9) 5 (nI cs8)) 13 as10) 14 wt11) 15 wf12) (updR (updR R 2 (.ref pq)) 3 (.ref mq)) Z B7 J K6 w pq dr ml nd nm cp it s9 q2 mq cs8 vr sz g rk pb Ag14 pd sl (u15 :: os) m9 sn lo hd c0 as10 (okA ∧ ¬ t13 = 63) (by omega) (BdE.wp hbe41 hwp) (BdE.pt hbe41 hwp hps) (BdE.rko hbe41 hrk) (by omega) (by omega) hng43 hf36 hf40 ⟨hv1.1, (by have z9 := hv1; omega)⟩ (EkA.be hbe41 (hbr49 7 (by decide)) (hbr49 11 (by decide)) hek) (OwC.be hbe41 hmq hdr0 hcO) (NaB.be hbe41 hbf48 hwp hps.2.1 hdr0 (hbr49 11 (by decide)) hna) (EnV.of (hbr49 26 (by decide)) (hbr49 27 (by decide)) hen) (fun z => (hev53 z).1) (by omega) (by show os.length + 1 + ndE g q2 ≤ 248; omega) hlf1 hO hl0) (gV pw_173 pw_174 pw_175 pw_63 pw_224) hV_X0_value qr1084 0 hqr1085 rfl rfl rfl (Nat.le_of_ble_eq_true rfl) dX0_sign_187 ⟨(by show 0 + 1 ≤ 1; omega), (by show 0 + 6 ≤ 6; omega)⟩ ⟨(by show (5 * (n - 1) + 34) + 1 ≤ (5 * n + 33); omega), (by show 8 + (3 + 11) + (200 * (n - 1) + 600) ≤ (200 * n + 560); omega)⟩ (fun v1083 u1081 H locs hw1082 hP hD hS => ?_) (fun ux ce9 q9 H9 locs9 hux hP9 hD9 hS9 hce hcv hcl => pb_out ux (ThQ.up (Thx.same (Thx.same (Thx.same (Thx.same (Thx.same (Thx.f (Thx.f (Thx.f (Thx.f (Bth.thx hbb42) (by omega)) (by omega)) (by omega)) (by omega)) rfl) rfl) rfl) rfl) rfl) (show RhX (updR (updR R 2 (.ref pq)) 3 (.ref mq)) (updR (updR (updR (updR R 2 (.ref pq)) 3 (.ref mq)) 2 (.ref pq)) 3 (.ref mq)) from fun k9 hk9 => by unfold updR; simp only [show ¬ k9 = 1 by omega, show ¬ k9 = 2 by omega, show ¬ k9 = 3 by omega, show ¬ k9 = 4 by omega, if_false]) hux) hnt hlocks hce hcv hcl hP9 hD9 hS9 (by show 0 + 1 ≤ 1; omega) (by show 0 + 6 ≤ 6; omega))
    obtain ⟨w, K1086, B1087, cs1088, as1089, wt1090, wf1091, t1092, Ag1093, u1094⟩ := u1081
    obtain ⟨hw1082, h1095, h1096, h1097, h1098, h1099, h1100, h1101, h1102, h1103, h1104, h1105, h1106, hO⟩ := hw1082
    have h1095 : SmW B7 B1087 cs8 := h1095
    have h1096 : BdE K6 K1086 := h1096
    have h1097 : BeF K6 K1086 := h1097
    have h1098 : BeL K6 K1086 none := h1098
    have h1099 : BeI K6 K1086 g q2 := h1099
    have h1100 : Bth B7 B1087 := h1100
    have h1101 : BeR B7 B1087 := h1101
    have h1102 : t1092 < 128 := h1102
    have h1103 : cs8 ≤ cs1088 ∧ cs1088 + 0 ≤ cs8 + 2 * tlE g q2 := h1103
    have h1104 : AsE as10 as1089 ∧ AsE as10 wt1090 ∧ AsE as10 wf1091 := h1104
    have h1105 : (okA ∧ ¬ t13 = 63) → VaQ pb B7 B1087 Ag14 Ag1093 pd m9 sn lo cs8 cs1088 as10 as1089 wt1090 wf1091 hd sl (u15 :: os) t1092 u1094 (K6.2.1 0 q2) := h1105
    have h1106 : CaK (K6.2.1 0 q2) → cs1088 + 2 ≤ cs8 + 2 * tlE g q2 := h1106
    obtain rfl : v1083 = some (.int (nI t1092)) := hw1082
    have hf1107 : K1086.1 pq = 7 := (BdE.T h1096 hf28 (by decide))
    have hf1108 : K1086.2.2.1 18 pq = some (a 1) := (BdE.C h1096 (by rw [hf28]; decide) 18).trans hf29
    have hf1109 : K1086.2.2.1 14 pq = some dr := (BdE.C h1096 (by rw [hf28]; decide) 14).trans hf30
    have hf1110 : K1086.1 dr = 8 := (BdE.T h1096 hf31 (by decide))
    have hf1111 : K1086.2.2.1 15 pq = some ml := (BdE.C h1096 (by rw [hf28]; decide) 15).trans hf32
    have hf1112 : K1086.1 ml = 5 := (BdE.T h1096 hf33 (by decide))
    have hf1113 : K1086.2.1 24 pq = (nI nd) := (BdE.I h1096 (by rw [hf28]; decide) (by decide) (by decide)).trans hf34
    have hf1114 : K1086.1 q = 1 := (BdE.T h1096 hf35 (by decide))
    have hf1115 : K1086.1 mq = 3 := (BdE.T h1096 hf36 (by decide))
    have hf1116 : K1086.2.2.1 0 q = some q1 := (BdE.C h1096 (by rw [hf35]; decide) 0).trans hf37
    have hf1117 : K1086.1 q1 = 1 := (BdE.T h1096 hf38 (by decide))
    have hf1118 : K1086.2.2.1 1 q = some q2 := (BdE.C h1096 (by rw [hf35]; decide) 1).trans hf39
    have hf1119 : K1086.1 q2 = 1 := (BdE.T h1096 hf40 (by decide))
    have hO : OKP G h0 a (upd (upd (upd (upd (upd (upd (upd F 2 (nI sz)) 5 (nI cs1088)) 7 (nI hd)) 12 (nI vr)) 13 as1089) 14 wt1090) 15 wf1091) (updR (updR R 2 (.ref pq)) 3 (.ref mq)) Z B1087 J K1086 w := hO.to rfl
    refine W.widen (k := 0) (n := 0) (by show 0 + 0 ≤ 0; omega) (by show 0 + 0 ≤ 0; omega) ?_
    refine W.eq (g2 := F0 m 190 ls [.int (nI t1092), .ref q2, .ref (a 4)]) rfl ?_
    have hbe1120 := BdE.trans hbe41 h1096
    have hbb1121 : Bth B B1087 := Bth.trans (show Thx (upd (upd (upd (upd (upd F 2 (nI sz)) 5 (nI cs)) 7 (nI hd)) 12 (nI vr)) 13 as9) (upd (upd (upd (upd (upd (upd (upd (upd (upd F 2 (nI sz)) 5 (nI cs)) 7 (nI hd)) 12 (nI vr)) 13 as9) 5 (nI cs8)) 13 as10) 14 wt11) 15 wf12) B B7 from (Thx.f (Thx.f (Thx.f (Thx.f (Bth.thx hbb42) (by omega)) (by omega)) (by omega)) (by omega))).2 h1100
    have hng1122 : Nng (B1087 18) := h1100.2 hng43
    have hsw1123 : ∀ x9 : Nat, x9 < cs → (B1087 16) x9 = B 16 x9 := fun x9 hx9 => ((h1095 x9 (by omega)).1).trans (hsw44 x9 hx9)
    have hsw1124 : ∀ x9 : Nat, x9 < cs → (B1087 17) x9 = B 17 x9 := fun x9 hx9 => ((h1095 x9 (by omega)).2.1).trans (hsw45 x9 hx9)
    have hsw1125 : ∀ x9 : Nat, x9 < cs → (B1087 18) x9 = B 18 x9 := fun x9 hx9 => ((h1095 x9 (by omega)).2.2.1).trans (hsw46 x9 hx9)
    have hsw1126 : ∀ x9 : Nat, x9 < cs → (B1087 19) x9 = B 19 x9 := fun x9 hx9 => ((h1095 x9 (by omega)).2.2.2).trans (hsw47 x9 hx9)
    have hbf1127 := BeF.trans hbf48 h1097 hbe41
    have hbl1130 := BeL.trans hbl51 h1098 hbe41
    have hbi1131 := BeI.trans hbi52 h1099 hbe41 hin1
    have hbr1128 : BeR B B1087 := BeR.trans hbr49 h1101
    have hpt1129 : ((okA ∧ ¬ t13 = 63) ∧ ¬ t1092 = 63) → EvQ pb.1 pb.2.1 pb.2.2.1 pb.2.2.2 (B 16) (B 17) (B 18) (B 19) (B1087 16) (B1087 17) (B1087 18) (B1087 19) Ag Ag1093 pd m9 sn lo cs cs1088 as9 as1089 hd sl (u1094 :: (u15 :: os)) ∧ UTb u1094 (nI t1092) as1089 wt1090 wf1091 := fun z => VaQ.part (B1 := B7) (hev53 z.1) (h1105 z.1) h1102 z.2
    have hev1132 := fun z => (hpt1129 z).1
    have has1133 : AsE as9 as1089 ∧ AsE as9 wt1090 ∧ AsE as9 wf1091 := ⟨AsE.trans has54.1 h1104.1, AsE.trans has54.1 h1104.2.1, AsE.trans has54.1 h1104.2.2⟩
    refine lv_bipush (v := 60) hx hb dX0_sign_190 (by decide) ?_
    have hO : OKP G h0 a (upd (upd (upd (upd (upd (upd (upd (upd (upd (upd F 2 (nI sz)) 5 (nI cs)) 7 (nI hd)) 12 (nI vr)) 13 as9) 5 (nI cs1088)) 13 as1089) 14 wt1090) 15 wf1091) 2 (nI sz)) (updR (updR (updR R 2 (.ref pq)) 3 (.ref mq)) 2 (.ref pq)) Z B1087 J K1086 w := hO.to rfl
    obtain ⟨_, qr1137, hqr1138⟩ := hO.2.1 24 _ (sg_24 G h0 a _ _ _ _ _)
    refine pn_V0 (G := G) (As := [.ref q2, .int (nI t1092), .int (nI 60)]) (rest := []) hx hb hml hown hq hE hX pX0_al hP hD hS hA hl.1 (Y_fit l G h0 a (upd (upd (upd (upd (upd (upd (upd (upd (upd F 2 (nI sz)) 5 (nI cs)) 7 (nI hd)) 12 (nI vr)) 13 as9) 5 (nI cs1088)) 13 as1089) 14 wt1090) 15 wf1091) (updR (updR R 2 (.ref pq)) 3 (.ref mq)) Z B1087 J K1086 w pq dr ml nd q2 sz t1092 60 g pb (by omega) (BdE.pt hbe1120 hwp hps).1 (BdE.pt hbe1120 hwp hps).2.1 hf1119 (by omega) hna.1.1 (NaB.be hbe1120 hbf1127 hwp hps.2.1 hdr0 (hbr1128 11 (by decide)) hna).1.2.2 hO hl0) (gV pw_176 pw_177 pw_178 pw_63 pw_114) hV_X0_fit qr1137 0 hqr1138 rfl rfl rfl (Nat.le_of_ble_eq_true rfl) dX0_sign_192 ⟨(by show 0 + 1 ≤ 1; omega), (by show 0 + 6 ≤ 6; omega)⟩ ⟨(by show 7 + 1 ≤ (5 * n + 33); omega), (by show 8 + (4 + 11) + 122 ≤ (200 * n + 560); omega)⟩ (fun v1136 u1134 H locs hw1135 hP hD hS => ?_) (fun ux ce9 q9 H9 locs9 hux hP9 hD9 hS9 hce hcv hcl => pb_out ux (ThQ.up (Thx.same (Thx.f (Thx.f (Thx.f (Thx.f (Bth.thx hbb1121) (by omega)) (by omega)) (by omega)) (by omega)) rfl) (show RhX (updR (updR R 2 (.ref pq)) 3 (.ref mq)) (updR (updR (updR R 2 (.ref pq)) 3 (.ref mq)) 2 (.ref pq)) from fun k9 hk9 => by unfold updR; simp only [show ¬ k9 = 1 by omega, show ¬ k9 = 2 by omega, show ¬ k9 = 3 by omega, show ¬ k9 = 4 by omega, if_false]) hux) hnt hlocks hce hcv hcl hP9 hD9 hS9 (by show 0 + 1 ≤ 1; omega) (by show 0 + 6 ≤ 6; omega))
    obtain ⟨w, _⟩ := u1134
    obtain ⟨hw1135, h1139, hO⟩ := hw1135
    have h1139 : FtQ pb t1092 60 := h1139
    obtain rfl : v1136 = none := hw1135
    have hO : OKP G h0 a (upd (upd (upd (upd (upd (upd (upd F 2 (nI sz)) 5 (nI cs1088)) 7 (nI hd)) 12 (nI vr)) 13 as1089) 14 wt1090) 15 wf1091) (updR (updR R 2 (.ref pq)) 3 (.ref mq)) Z B1087 J K1086 w := hO.to rfl
    refine W.widen (k := 0) (n := 0) (by show 0 + 0 ≤ 0; omega) (by show 0 + 0 ≤ 0; omega) ?_
    refine W.eq (g2 := F0 m 195 ls []) rfl ?_
    refine lv_iload_n hx hb dX0_sign_195 rfl (lv_at hl 3 rfl) ?_
    refine lv_bipush (v := 54) hx hb dX0_sign_196 (by decide) ?_
    refine lv_icmp_lt (tgt := 211) hx hb dX0_sign_198 (by decide) (fun c1140 => absurd c1140 (by decide)) (fun c1140 => ?_)
    refine lv_iload_n hx hb dX0_sign_201 rfl (lv_at hl 3 rfl) ?_
    refine lv_bipush (v := 57) hx hb dX0_sign_202 (by decide) ?_
    refine lv_icmp_gt (tgt := 211) hx hb dX0_sign_204 (by decide) (fun c1141 => absurd c1141 (by decide)) (fun c1141 => ?_)
    refine lv_iconst (v := 1) hx hb dX0_sign_207 (by decide) ?_
    refine lv_goto (tgt := 212) hx hb dX0_sign_208 (by decide) ?_
    refine lv_istore (lv' := [(4, .int 1), (3, .int (nI t13)), (0, .ref (a 4)), (1, .ref q), (2, .int 57)]) hx hb dX0_sign_212 hl (by decide) rfl (fun ls hl => ?_)
    refine lv_aload_n hx hb dX0_sign_214 rfl (lv_at hl 2 rfl) ?_
    refine lv_bipush (v := 10) hx hb dX0_sign_215 (by decide) ?_
    refine lv_iload_n hx hb dX0_sign_217 rfl (lv_at hl 4 rfl) ?_
    refine lv_iload hx hb dX0_sign_218 (lv_at hl 0 rfl) ?_
    refine lv_if_eq (tgt := 228) hx hb dX0_sign_220 (by decide) (fun c1142 => absurd c1142 (by decide)) (fun c1142 => ?_)
    refine lv_bipush (v := 61) hx hb dX0_sign_223 (by decide) ?_
    refine lv_goto (tgt := 230) hx hb dX0_sign_225 (by decide) ?_
    have hut1143 := fun z : okA => (hpt50 ⟨z, h1080.1⟩).2
    have hut1144 := fun z : okA => (hpt1129 ⟨⟨z, h1080.1⟩, h1139.1⟩).2
    have hev1145 := fun z : okA => hev1132 ⟨⟨z, h1080.1⟩, h1139.1⟩
    have hfb := h1139
    have hO : OKW G h0 a (upd (upd (upd (upd (upd (upd (upd (upd (upd F 2 (nI sz)) 5 (nI cs1088)) 7 (nI hd)) 12 (nI vr)) 13 as1089) 14 wt1090) 15 wf1091) 5 (nI cs1088)) 7 (nI hd)) (updR (updR R 2 (.ref pq)) 3 (.ref mq)) Z B1087 J K1086.1 (fun q99 x99 => x99 = rep G a K1086 q99) w := hO.to rfl
    obtain ⟨_, qr1149, hqr1150⟩ := hO.2.1 24 _ (sg_24 G h0 a _ _ _ _ _)
    refine pc_V0 (G := G) (As := [.int 10, .int 57, .int 61]) (rest := []) hx hb hml hown hq hE hX pX0_al hP hD hS hA hl.1 (Y_give l G h0 a (upd (upd (upd (upd (upd (upd (upd F 2 (nI sz)) 5 (nI cs1088)) 7 (nI hd)) 12 (nI vr)) 13 as1089) 14 wt1090) 15 wf1091) (updR (updR R 2 (.ref pq)) 3 (.ref mq)) Z B1087 J K1086.1 (fun q99 x99 => x99 = rep G a K1086 q99) w 10 57 61 cs1088 hd (by omega) hO) (gV pw_158 pw_159 pw_160 pw_63 pw_128) hV_X0_give qr1149 0 hqr1150 rfl rfl rfl (Nat.le_of_ble_eq_true rfl) dX0_sign_230 ⟨(by show 0 + 0 ≤ 1; omega), (by show 0 + 0 ≤ 6; omega)⟩ ⟨(by show 3 + 1 ≤ (5 * n + 33); omega), (by show 8 + (4 + 11) + 83 ≤ (200 * n + 560); omega)⟩ (fun v1148 u1146 H locs hw1147 hP hD hS => ?_)
    obtain ⟨w, _⟩ := u1146
    obtain ⟨hw1147, hO⟩ := hw1147
    obtain rfl : v1148 = some (.int 61) := hw1147
    have hO : OKP G h0 a (upd (upd (upd (upd (upd (upd (upd F 2 (nI sz)) 5 (nI (cs1088 + 1))) 7 (nI hd)) 12 (nI vr)) 13 as1089) 14 wt1090) 15 wf1091) (updR (updR R 2 (.ref pq)) 3 (.ref mq)) Z (updA (updA (updA (updA B1087 16 (upd ((B1087 16)) cs1088 10)) 17 (upd ((B1087 17)) cs1088 57)) 18 (upd ((B1087 18)) cs1088 0)) 19 (upd ((B1087 19)) cs1088 (nI hd))) J K1086 w := hO.to rfl
    refine W.widen (k := 0) (n := 0) (Nat.le_of_ble_eq_true rfl) (Nat.le_of_ble_eq_true rfl) ?_
    refine W.eq (g2 := F0 m 233 ls [.int 61]) rfl ?_
    have hsw1151 : ∀ x9 : Nat, x9 < cs → (upd ((B1087 16)) cs1088 10) x9 = B 16 x9 := fun x9 hx9 => (if_neg (by omega)).trans (hsw1123 x9 hx9)
    have hsw1152 : ∀ x9 : Nat, x9 < cs → (upd ((B1087 17)) cs1088 57) x9 = B 17 x9 := fun x9 hx9 => (if_neg (by omega)).trans (hsw1124 x9 hx9)
    have hsw1153 : ∀ x9 : Nat, x9 < cs → (upd ((B1087 18)) cs1088 0) x9 = B 18 x9 := fun x9 hx9 => (if_neg (by omega)).trans (hsw1125 x9 hx9)
    have hsw1154 : ∀ x9 : Nat, x9 < cs → (upd ((B1087 19)) cs1088 (nI hd)) x9 = B 19 x9 := fun x9 hx9 => (if_neg (by omega)).trans (hsw1126 x9 hx9)
    obtain ⟨Ag1155, hev1156⟩ : ∃ A5 : Nat → AS, okA → EvQ pb.1 pb.2.1 pb.2.2.1 pb.2.2.2 (B 16) (B 17) (B 18) (B 19) (upd ((B1087 16)) cs1088 10) (upd ((B1087 17)) cs1088 57) (upd ((B1087 18)) cs1088 0) (upd ((B1087 19)) cs1088 (nI hd)) Ag A5 pd m9 sn lo cs (cs1088 + 1) as9 as1089 hd sl (61 :: os) := ⟨(upS Ag1093 (cs1088 + 1) (rcA as1089, hd, sl, (61 :: os))), fun z => (hev1145 z).trans (EmS.sign (hev1145 z).1 (by show os.length + 1 + 1 ≤ 248; omega) (SgT.cmp (by decide)))⟩
    have hng9 : Nng (upd ((B1087 18)) cs1088 0) := Nng.set hng1122 (k := 0) (by omega)
    have hng1157 := hng9
    refine W_size (fun hz1 hz2 => ?_)
    refine vx_ret ?_
    have hz1158 : SmW B (updA (updA (updA (updA B1087 16 (upd ((B1087 16)) cs1088 10)) 17 (upd ((B1087 17)) cs1088 57)) 18 (upd ((B1087 18)) cs1088 0)) 19 (upd ((B1087 19)) cs1088 (nI hd))) cs := (fun x9 hx9 => ⟨hsw1151 x9 hx9, hsw1152 x9 hx9, hsw1153 x9 hx9, hsw1154 x9 hx9⟩)
    have hz1159 : BdE K K1086 := hbe1120
    have hz1160 : BeF K K1086 := hbf1127
    have hz1161 : BeL K K1086 none := hbl1130
    have hz1162 : BeI K K1086 g q := hbi1131
    have hz1163 : Bth B (updA (updA (updA (updA B1087 16 (upd ((B1087 16)) cs1088 10)) 17 (upd ((B1087 17)) cs1088 57)) 18 (upd ((B1087 18)) cs1088 0)) 19 (upd ((B1087 19)) cs1088 (nI hd))) := (show Thx (upd (upd (upd (upd (upd F 2 (nI sz)) 5 (nI cs)) 7 (nI hd)) 12 (nI vr)) 13 as9) (upd (upd (upd (upd (upd (upd (upd (upd (upd F 2 (nI sz)) 5 (nI cs)) 7 (nI hd)) 12 (nI vr)) 13 as9) 5 (nI (cs1088 + 1))) 13 as1089) 14 wt1090) 15 wf1091) B (updA (updA (updA (updA B1087 16 (upd ((B1087 16)) cs1088 10)) 17 (upd ((B1087 17)) cs1088 57)) 18 (upd ((B1087 18)) cs1088 0)) 19 (upd ((B1087 19)) cs1088 (nI hd))) from (Thx.b (Thx.b8 (Thx.b (Thx.b (Thx.f (Thx.f (Thx.f (Thx.f (Bth.thx hbb1121) (by omega)) (by omega)) (by omega)) (by omega)) (by omega) (by decide)) (by omega) (by decide)) hng1157) (by omega) (by decide))).2
    have hz1164 : BeR B (updA (updA (updA (updA B1087 16 (upd ((B1087 16)) cs1088 10)) 17 (upd ((B1087 17)) cs1088 57)) 18 (upd ((B1087 18)) cs1088 0)) 19 (upd ((B1087 19)) cs1088 (nI hd))) := (BeR.up (k := 19) (f := (upd ((B1087 19)) cs1088 (nI hd))) (BeR.up (k := 18) (f := (upd ((B1087 18)) cs1088 0)) (BeR.up (k := 17) (f := (upd ((B1087 17)) cs1088 57)) (BeR.up (k := 16) (f := (upd ((B1087 16)) cs1088 10)) hbr1128 (by omega)) (by omega)) (by omega)) (by omega))
    have hz1165 : 61 < 128 := (by omega)
    have hz1166 : cs ≤ (cs1088 + 1) ∧ (cs1088 + 1) + 0 ≤ cs + 2 * tlE g q := (by omega)
    have hz1167 : AsE as9 as1089 := has1133.1
    have hz1168 : okA → PlQ pb B (updA (updA (updA (updA B1087 16 (upd ((B1087 16)) cs1088 10)) 17 (upd ((B1087 17)) cs1088 57)) 18 (upd ((B1087 18)) cs1088 0)) 19 (upd ((B1087 19)) cs1088 (nI hd))) Ag Ag1155 pd m9 sn lo cs (cs1088 + 1) as9 as1089 hd sl os 61 (K.2.1 0 q) := (fun z => Or.inr ⟨by rw [rsO_ne (by omega)]; exact hev1156 z, by omega⟩)
    have hO : OKP G h0 a (upd (upd (upd (upd (upd (upd (upd F 2 (nI sz)) 5 (nI (cs1088 + 1))) 7 (nI hd)) 12 (nI vr)) 13 as1089) 14 wt1090) 15 wf1091) (updR (updR R 2 (.ref pq)) 3 (.ref mq)) Z (updA (updA (updA (updA B1087 16 (upd ((B1087 16)) cs1088 10)) 17 (upd ((B1087 17)) cs1088 57)) 18 (upd ((B1087 18)) cs1088 0)) 19 (upd ((B1087 19)) cs1088 (nI hd))) J K1086 w := hO.to rfl
    refine W.widen (k := 1) (n := 6) (by omega) (by omega) ?_
    have hzz1 : H.size ≤ s.heap.size + (0) := (by have z : 0 ≤ 0 := (by omega); omega)
    have hzz2 : hSl H ≤ hSl s.heap + (0) := (by have z : 0 ≤ 0 := (by omega); omega)
    exact W.iret (v := 61) hx hb hr (fun t99 ht99 hW99 => ⟨⟨_, (w, (K1086, (updA (updA (updA (updA B1087 16 (upd ((B1087 16)) cs1088 10)) 17 (upd ((B1087 17)) cs1088 57)) 18 (upd ((B1087 18)) cs1088 0)) 19 (upd ((B1087 19)) cs1088 (nI hd))), (cs1088 + 1), as1089, wt1090, wf1091, 61, Ag1155)), rfl, ⟨rfl, hz1158, hz1159, hz1160, hz1161, hz1162, hz1163, hz1164, hz1165, hz1166, hz1167, hz1168, hO⟩, by rw [ht99]; exact hP, hD, by rw [ht99]; exact hzz1, by rw [ht99]; exact hzz2⟩, hS.F ht99⟩) hS.2.2 dX0_sign_233
  by_cases h1169 : x = 58
  · subst h1169
    refine lv_tableIn (tgt := 68) (off := 58) hx hb dX0_sign_10 (by decide) (by decide) (by decide) (by decide) ?_
    refine lv_aload_n hx hb dX0_sign_68 rfl (lv_at hl 1 rfl) ?_
    refine c_get (v := .ref pq) (C := RX0) (Tc := TX0) (N := 13) (ci := 0) hx hb hq pin_wsX00 hown hE hP hO 24 (sg_24 G h0 a _ _ _ _ _) rfl 6 (by decide) (hq _ pw_110) (fun _ h9 => h9) rfl dX0_sign_69 ?_
    refine lv_iload_n hx hb dX0_sign_72 rfl (lv_at hl 0 rfl) ?_
    refine lv_aload_n hx hb dX0_sign_73 rfl (lv_at hl 1 rfl) ?_
    refine lv_aload_n hx hb dX0_sign_74 rfl (lv_at hl 2 rfl) ?_
    refine p_get (v := .ref q2) (C := RX7) (Tc := TX7) (N := 11) (ci := 13) hx hb hq pin_wsX70 hown hE hP hO (by rw [hf35]; decide) (rep_1 hf35) rfl 7 (by decide) (hq _ pw_169) (fun _ h9 => h9) (congrArg (fun z => some (va_rf z)) hf39) dX0_sign_75 ?_
    have hO : OKP G h0 a (upd (upd (upd (upd (upd (upd (upd (upd (upd (upd (upd (upd (upd (upd F 2 (nI sz)) 5 (nI cs)) 7 (nI hd)) 12 (nI vr)) 13 as9) 5 (nI cs8)) 13 as10) 14 wt11) 15 wf12) 2 (nI sz)) 5 (nI cs8)) 7 (nI hd)) 12 (nI vr)) 13 as10) (updR (updR (updR (updR R 2 (.ref pq)) 3 (.ref mq)) 2 (.ref pq)) 3 (.ref mq)) Z B7 J K6 w := hO.to rfl
    obtain ⟨_, qr1173, hqr1174⟩ := hO.2.1 24 _ (sg_24 G h0 a _ _ _ _ _)
    refine pn_V0 (G := G) (As := [.ref q2]) (rest := [.int (nI t13), .ref pq]) hx hb hml hown hq hE hX pX0_al hP hD hS hA hl.1 ((ihv (by omega)) h0 a (upd (upd (upd (upd (upd (upd (upd (upd (upd F 2 (nI sz)) 5 (nI cs)) 7 (nI hd)) 12 (nI vr)) 13 as9) 5 (nI cs8)) 13 as10) 14 wt11) 15 wf12) (updR (updR R 2 (.ref pq)) 3 (.ref mq)) Z B7 J K6 w pq dr ml nd nm cp it s9 q2 mq cs8 vr sz g rk pb Ag14 pd sl (u15 :: os) m9 sn lo hd c0 as10 (okA ∧ ¬ t13 = 63) (by omega) (BdE.wp hbe41 hwp) (BdE.pt hbe41 hwp hps) (BdE.rko hbe41 hrk) (by omega) (by omega) hng43 hf36 hf40 ⟨hv1.1, (by have z9 := hv1; omega)⟩ (EkA.be hbe41 (hbr49 7 (by decide)) (hbr49 11 (by decide)) hek) (OwC.be hbe41 hmq hdr0 hcO) (NaB.be hbe41 hbf48 hwp hps.2.1 hdr0 (hbr49 11 (by decide)) hna) (EnV.of (hbr49 26 (by decide)) (hbr49 27 (by decide)) hen) (fun z => (hev53 z).1) (by omega) (by show os.length + 1 + ndE g q2 ≤ 248; omega) hlf1 hO hl0) (gV pw_173 pw_174 pw_175 pw_63 pw_224) hV_X0_value qr1173 0 hqr1174 rfl rfl rfl (Nat.le_of_ble_eq_true rfl) dX0_sign_78 ⟨(by show 0 + 1 ≤ 1; omega), (by show 0 + 6 ≤ 6; omega)⟩ ⟨(by show (5 * (n - 1) + 34) + 1 ≤ (5 * n + 33); omega), (by show 8 + (3 + 11) + (200 * (n - 1) + 600) ≤ (200 * n + 560); omega)⟩ (fun v1172 u1170 H locs hw1171 hP hD hS => ?_) (fun ux ce9 q9 H9 locs9 hux hP9 hD9 hS9 hce hcv hcl => pb_out ux (ThQ.up (Thx.same (Thx.same (Thx.same (Thx.same (Thx.same (Thx.f (Thx.f (Thx.f (Thx.f (Bth.thx hbb42) (by omega)) (by omega)) (by omega)) (by omega)) rfl) rfl) rfl) rfl) rfl) (show RhX (updR (updR R 2 (.ref pq)) 3 (.ref mq)) (updR (updR (updR (updR R 2 (.ref pq)) 3 (.ref mq)) 2 (.ref pq)) 3 (.ref mq)) from fun k9 hk9 => by unfold updR; simp only [show ¬ k9 = 1 by omega, show ¬ k9 = 2 by omega, show ¬ k9 = 3 by omega, show ¬ k9 = 4 by omega, if_false]) hux) hnt hlocks hce hcv hcl hP9 hD9 hS9 (by show 0 + 1 ≤ 1; omega) (by show 0 + 6 ≤ 6; omega))
    obtain ⟨w, K1175, B1176, cs1177, as1178, wt1179, wf1180, t1181, Ag1182, u1183⟩ := u1170
    obtain ⟨hw1171, h1184, h1185, h1186, h1187, h1188, h1189, h1190, h1191, h1192, h1193, h1194, h1195, hO⟩ := hw1171
    have h1184 : SmW B7 B1176 cs8 := h1184
    have h1185 : BdE K6 K1175 := h1185
    have h1186 : BeF K6 K1175 := h1186
    have h1187 : BeL K6 K1175 none := h1187
    have h1188 : BeI K6 K1175 g q2 := h1188
    have h1189 : Bth B7 B1176 := h1189
    have h1190 : BeR B7 B1176 := h1190
    have h1191 : t1181 < 128 := h1191
    have h1192 : cs8 ≤ cs1177 ∧ cs1177 + 0 ≤ cs8 + 2 * tlE g q2 := h1192
    have h1193 : AsE as10 as1178 ∧ AsE as10 wt1179 ∧ AsE as10 wf1180 := h1193
    have h1194 : (okA ∧ ¬ t13 = 63) → VaQ pb B7 B1176 Ag14 Ag1182 pd m9 sn lo cs8 cs1177 as10 as1178 wt1179 wf1180 hd sl (u15 :: os) t1181 u1183 (K6.2.1 0 q2) := h1194
    have h1195 : CaK (K6.2.1 0 q2) → cs1177 + 2 ≤ cs8 + 2 * tlE g q2 := h1195
    obtain rfl : v1172 = some (.int (nI t1181)) := hw1171
    have hf1196 : K1175.1 pq = 7 := (BdE.T h1185 hf28 (by decide))
    have hf1197 : K1175.2.2.1 18 pq = some (a 1) := (BdE.C h1185 (by rw [hf28]; decide) 18).trans hf29
    have hf1198 : K1175.2.2.1 14 pq = some dr := (BdE.C h1185 (by rw [hf28]; decide) 14).trans hf30
    have hf1199 : K1175.1 dr = 8 := (BdE.T h1185 hf31 (by decide))
    have hf1200 : K1175.2.2.1 15 pq = some ml := (BdE.C h1185 (by rw [hf28]; decide) 15).trans hf32
    have hf1201 : K1175.1 ml = 5 := (BdE.T h1185 hf33 (by decide))
    have hf1202 : K1175.2.1 24 pq = (nI nd) := (BdE.I h1185 (by rw [hf28]; decide) (by decide) (by decide)).trans hf34
    have hf1203 : K1175.1 q = 1 := (BdE.T h1185 hf35 (by decide))
    have hf1204 : K1175.1 mq = 3 := (BdE.T h1185 hf36 (by decide))
    have hf1205 : K1175.2.2.1 0 q = some q1 := (BdE.C h1185 (by rw [hf35]; decide) 0).trans hf37
    have hf1206 : K1175.1 q1 = 1 := (BdE.T h1185 hf38 (by decide))
    have hf1207 : K1175.2.2.1 1 q = some q2 := (BdE.C h1185 (by rw [hf35]; decide) 1).trans hf39
    have hf1208 : K1175.1 q2 = 1 := (BdE.T h1185 hf40 (by decide))
    have hO : OKP G h0 a (upd (upd (upd (upd (upd (upd (upd F 2 (nI sz)) 5 (nI cs1177)) 7 (nI hd)) 12 (nI vr)) 13 as1178) 14 wt1179) 15 wf1180) (updR (updR R 2 (.ref pq)) 3 (.ref mq)) Z B1176 J K1175 w := hO.to rfl
    refine W.widen (k := 0) (n := 0) (by show 0 + 0 ≤ 0; omega) (by show 0 + 0 ≤ 0; omega) ?_
    refine W.eq (g2 := F0 m 81 ls [.int (nI t1181), .int (nI t13), .ref pq]) rfl ?_
    have hbe1209 := BdE.trans hbe41 h1185
    have hbb1210 : Bth B B1176 := Bth.trans (show Thx (upd (upd (upd (upd (upd F 2 (nI sz)) 5 (nI cs)) 7 (nI hd)) 12 (nI vr)) 13 as9) (upd (upd (upd (upd (upd (upd (upd (upd (upd F 2 (nI sz)) 5 (nI cs)) 7 (nI hd)) 12 (nI vr)) 13 as9) 5 (nI cs8)) 13 as10) 14 wt11) 15 wf12) B B7 from (Thx.f (Thx.f (Thx.f (Thx.f (Bth.thx hbb42) (by omega)) (by omega)) (by omega)) (by omega))).2 h1189
    have hng1211 : Nng (B1176 18) := h1189.2 hng43
    have hsw1212 : ∀ x9 : Nat, x9 < cs → (B1176 16) x9 = B 16 x9 := fun x9 hx9 => ((h1184 x9 (by omega)).1).trans (hsw44 x9 hx9)
    have hsw1213 : ∀ x9 : Nat, x9 < cs → (B1176 17) x9 = B 17 x9 := fun x9 hx9 => ((h1184 x9 (by omega)).2.1).trans (hsw45 x9 hx9)
    have hsw1214 : ∀ x9 : Nat, x9 < cs → (B1176 18) x9 = B 18 x9 := fun x9 hx9 => ((h1184 x9 (by omega)).2.2.1).trans (hsw46 x9 hx9)
    have hsw1215 : ∀ x9 : Nat, x9 < cs → (B1176 19) x9 = B 19 x9 := fun x9 hx9 => ((h1184 x9 (by omega)).2.2.2).trans (hsw47 x9 hx9)
    have hbf1216 := BeF.trans hbf48 h1186 hbe41
    have hbl1219 := BeL.trans hbl51 h1187 hbe41
    have hbi1220 := BeI.trans hbi52 h1188 hbe41 hin1
    have hbr1217 : BeR B B1176 := BeR.trans hbr49 h1190
    have hpt1218 : ((okA ∧ ¬ t13 = 63) ∧ ¬ t1181 = 63) → EvQ pb.1 pb.2.1 pb.2.2.1 pb.2.2.2 (B 16) (B 17) (B 18) (B 19) (B1176 16) (B1176 17) (B1176 18) (B1176 19) Ag Ag1182 pd m9 sn lo cs cs1177 as9 as1178 hd sl (u1183 :: (u15 :: os)) ∧ UTb u1183 (nI t1181) as1178 wt1179 wf1180 := fun z => VaQ.part (B1 := B7) (hev53 z.1) (h1194 z.1) h1191 z.2
    have hev1221 := fun z => (hpt1218 z).1
    have has1222 : AsE as9 as1178 ∧ AsE as9 wt1179 ∧ AsE as9 wf1180 := ⟨AsE.trans has54.1 h1193.1, AsE.trans has54.1 h1193.2.1, AsE.trans has54.1 h1193.2.2⟩
    have hO : OKP G h0 a (upd (upd (upd (upd (upd (upd (upd F 2 (nI sz)) 5 (nI cs1177)) 7 (nI hd)) 12 (nI vr)) 13 as1178) 14 wt1179) 15 wf1180) (updR (updR R 2 (.ref pq)) 3 (.ref mq)) Z B1176 J K1175 w := hO.to rfl
    obtain ⟨qr1226, hqr1227⟩ := p_recv hO (by rw [hf1196]; decide) (rep_7 hf1196)
    refine pc_V0 (G := G) (As := [.int (nI t13), .int (nI t1181)]) (rest := []) hx hb hml hown hq hE hX pX0_al hP hD hS hA hl.1 (Y_common l G h0 a (upd (upd (upd (upd (upd (upd (upd F 2 (nI sz)) 5 (nI cs1177)) 7 (nI hd)) 12 (nI vr)) 13 as1178) 14 wt1179) 15 wf1180) (updR (updR R 2 (.ref pq)) 3 (.ref mq)) Z B1176 J K1175 w pq dr ml nd t13 t1181 g (BdE.pt hbe1209 hwp hps).1 (BdE.pt hbe1209 hwp hps).2.1 (by omega) hO) (gV pw_203 pw_204 pw_205 pw_106 pw_135) hV_X9_common qr1226 6 hqr1227 rfl rfl rfl (Nat.le_of_ble_eq_true rfl) dX0_sign_81 ⟨(by show 0 + 0 ≤ 1; omega), (by show 0 + 0 ≤ 6; omega)⟩ ⟨(by show 4 + 1 ≤ (5 * n + 33); omega), (by show 8 + (3 + 11) + 104 ≤ (200 * n + 560); omega)⟩ (fun v1225 u1223 H locs hw1224 hP hD hS => ?_)
    obtain ⟨w, r1228⟩ := u1223
    obtain ⟨hw1224, h1229, hO⟩ := hw1224
    have h1229 : CoQ (btK K1175 dr) nd t13 t1181 r1228 := h1229
    obtain rfl : v1225 = some (.int (nI r1228)) := hw1224
    have hO : OKP G h0 a (upd (upd (upd (upd (upd (upd (upd F 2 (nI sz)) 5 (nI cs1177)) 7 (nI hd)) 12 (nI vr)) 13 as1178) 14 wt1179) 15 wf1180) (updR (updR R 2 (.ref pq)) 3 (.ref mq)) Z B1176 J K1175 w := hO.to rfl
    refine W.widen (k := 0) (n := 0) (Nat.le_of_ble_eq_true rfl) (Nat.le_of_ble_eq_true rfl) ?_
    refine W.eq (g2 := F0 m 84 ls [.int (nI r1228)]) rfl ?_
    have hcl1230 := CoQ.lt h1229 (by omega) (by omega)
    refine lv_bipush (v := 63) hx hb dX0_sign_84 (by decide) ?_
    refine lv_icmp_ne (tgt := 102) hx hb dX0_sign_86 (by decide) (fun c1231 => ?_) (fun c1231 => ?_)
    · have n1232 : ¬ (r1228 = 63) := fun h9 => c1231 ((nI_eq (a := r1228) (b := 63) (by omega) (by omega)).mpr h9)
      have hc63 : ¬ r1228 = 63 := by first | omega | exact fun e9 => c1231 (congrArg nI e9)
      refine lv_aload_n hx hb dX0_sign_102 rfl (lv_at hl 1 rfl) ?_
      refine lv_bipush (v := 10) hx hb dX0_sign_103 (by decide) ?_
      refine lv_iload_n hx hb dX0_sign_105 rfl (lv_at hl 3 rfl) ?_
      refine lv_bipush (v := 61) hx hb dX0_sign_106 (by decide) ?_
      have hn63 := CoQ.n63 h1229 hc63
      have hut1233 := fun z : okA => (hpt50 ⟨z, hn63.1⟩).2
      have hut1234 := fun z : okA => (hpt1218 ⟨⟨z, hn63.1⟩, hn63.2⟩).2
      have hev1235 := fun z : okA => hev1221 ⟨⟨z, hn63.1⟩, hn63.2⟩
      have hO : OKW G h0 a (upd (upd (upd (upd (upd (upd (upd (upd (upd F 2 (nI sz)) 5 (nI cs1177)) 7 (nI hd)) 12 (nI vr)) 13 as1178) 14 wt1179) 15 wf1180) 5 (nI cs1177)) 7 (nI hd)) (updR (updR R 2 (.ref pq)) 3 (.ref mq)) Z B1176 J K1175.1 (fun q99 x99 => x99 = rep G a K1175 q99) w := hO.to rfl
      obtain ⟨_, qr1239, hqr1240⟩ := hO.2.1 24 _ (sg_24 G h0 a _ _ _ _ _)
      refine pc_V0 (G := G) (As := [.int 10, .int 58, .int 61]) (rest := []) hx hb hml hown hq hE hX pX0_al hP hD hS hA hl.1 (Y_give l G h0 a (upd (upd (upd (upd (upd (upd (upd F 2 (nI sz)) 5 (nI cs1177)) 7 (nI hd)) 12 (nI vr)) 13 as1178) 14 wt1179) 15 wf1180) (updR (updR R 2 (.ref pq)) 3 (.ref mq)) Z B1176 J K1175.1 (fun q99 x99 => x99 = rep G a K1175 q99) w 10 58 61 cs1177 hd (by omega) hO) (gV pw_158 pw_159 pw_160 pw_63 pw_128) hV_X0_give qr1239 0 hqr1240 rfl rfl rfl (Nat.le_of_ble_eq_true rfl) dX0_sign_108 ⟨(by show 0 + 0 ≤ 1; omega), (by show 0 + 0 ≤ 6; omega)⟩ ⟨(by show 3 + 1 ≤ (5 * n + 33); omega), (by show 8 + (4 + 11) + 83 ≤ (200 * n + 560); omega)⟩ (fun v1238 u1236 H locs hw1237 hP hD hS => ?_)
      obtain ⟨w, _⟩ := u1236
      obtain ⟨hw1237, hO⟩ := hw1237
      obtain rfl : v1238 = some (.int 61) := hw1237
      have hO : OKP G h0 a (upd (upd (upd (upd (upd (upd (upd F 2 (nI sz)) 5 (nI (cs1177 + 1))) 7 (nI hd)) 12 (nI vr)) 13 as1178) 14 wt1179) 15 wf1180) (updR (updR R 2 (.ref pq)) 3 (.ref mq)) Z (updA (updA (updA (updA B1176 16 (upd ((B1176 16)) cs1177 10)) 17 (upd ((B1176 17)) cs1177 58)) 18 (upd ((B1176 18)) cs1177 0)) 19 (upd ((B1176 19)) cs1177 (nI hd))) J K1175 w := hO.to rfl
      refine W.widen (k := 0) (n := 0) (Nat.le_of_ble_eq_true rfl) (Nat.le_of_ble_eq_true rfl) ?_
      refine W.eq (g2 := F0 m 111 ls [.int 61]) rfl ?_
      have hsw1241 : ∀ x9 : Nat, x9 < cs → (upd ((B1176 16)) cs1177 10) x9 = B 16 x9 := fun x9 hx9 => (if_neg (by omega)).trans (hsw1212 x9 hx9)
      have hsw1242 : ∀ x9 : Nat, x9 < cs → (upd ((B1176 17)) cs1177 58) x9 = B 17 x9 := fun x9 hx9 => (if_neg (by omega)).trans (hsw1213 x9 hx9)
      have hsw1243 : ∀ x9 : Nat, x9 < cs → (upd ((B1176 18)) cs1177 0) x9 = B 18 x9 := fun x9 hx9 => (if_neg (by omega)).trans (hsw1214 x9 hx9)
      have hsw1244 : ∀ x9 : Nat, x9 < cs → (upd ((B1176 19)) cs1177 (nI hd)) x9 = B 19 x9 := fun x9 hx9 => (if_neg (by omega)).trans (hsw1215 x9 hx9)
      obtain ⟨Ag1245, hev1246⟩ : ∃ A5 : Nat → AS, okA → EvQ pb.1 pb.2.1 pb.2.2.1 pb.2.2.2 (B 16) (B 17) (B 18) (B 19) (upd ((B1176 16)) cs1177 10) (upd ((B1176 17)) cs1177 58) (upd ((B1176 18)) cs1177 0) (upd ((B1176 19)) cs1177 (nI hd)) Ag A5 pd m9 sn lo cs (cs1177 + 1) as9 as1178 hd sl (61 :: os) := ⟨(upS Ag1182 (cs1177 + 1) (rcA as1178, hd, sl, (61 :: os))), fun z => (hev1235 z).trans (EmS.sign (hev1235 z).1 (by show os.length + 1 + 1 ≤ 248; omega) (SgT.cmp (by decide)))⟩
      have hng9 : Nng (upd ((B1176 18)) cs1177 0) := Nng.set hng1211 (k := 0) (by omega)
      have hng1247 := hng9
      refine W_size (fun hz1 hz2 => ?_)
      refine vx_ret ?_
      have hz1248 : SmW B (updA (updA (updA (updA B1176 16 (upd ((B1176 16)) cs1177 10)) 17 (upd ((B1176 17)) cs1177 58)) 18 (upd ((B1176 18)) cs1177 0)) 19 (upd ((B1176 19)) cs1177 (nI hd))) cs := (fun x9 hx9 => ⟨hsw1241 x9 hx9, hsw1242 x9 hx9, hsw1243 x9 hx9, hsw1244 x9 hx9⟩)
      have hz1249 : BdE K K1175 := hbe1209
      have hz1250 : BeF K K1175 := hbf1216
      have hz1251 : BeL K K1175 none := hbl1219
      have hz1252 : BeI K K1175 g q := hbi1220
      have hz1253 : Bth B (updA (updA (updA (updA B1176 16 (upd ((B1176 16)) cs1177 10)) 17 (upd ((B1176 17)) cs1177 58)) 18 (upd ((B1176 18)) cs1177 0)) 19 (upd ((B1176 19)) cs1177 (nI hd))) := (show Thx (upd (upd (upd (upd (upd F 2 (nI sz)) 5 (nI cs)) 7 (nI hd)) 12 (nI vr)) 13 as9) (upd (upd (upd (upd (upd (upd (upd (upd (upd F 2 (nI sz)) 5 (nI cs)) 7 (nI hd)) 12 (nI vr)) 13 as9) 5 (nI (cs1177 + 1))) 13 as1178) 14 wt1179) 15 wf1180) B (updA (updA (updA (updA B1176 16 (upd ((B1176 16)) cs1177 10)) 17 (upd ((B1176 17)) cs1177 58)) 18 (upd ((B1176 18)) cs1177 0)) 19 (upd ((B1176 19)) cs1177 (nI hd))) from (Thx.b (Thx.b8 (Thx.b (Thx.b (Thx.f (Thx.f (Thx.f (Thx.f (Bth.thx hbb1210) (by omega)) (by omega)) (by omega)) (by omega)) (by omega) (by decide)) (by omega) (by decide)) hng1247) (by omega) (by decide))).2
      have hz1254 : BeR B (updA (updA (updA (updA B1176 16 (upd ((B1176 16)) cs1177 10)) 17 (upd ((B1176 17)) cs1177 58)) 18 (upd ((B1176 18)) cs1177 0)) 19 (upd ((B1176 19)) cs1177 (nI hd))) := (BeR.up (k := 19) (f := (upd ((B1176 19)) cs1177 (nI hd))) (BeR.up (k := 18) (f := (upd ((B1176 18)) cs1177 0)) (BeR.up (k := 17) (f := (upd ((B1176 17)) cs1177 58)) (BeR.up (k := 16) (f := (upd ((B1176 16)) cs1177 10)) hbr1217 (by omega)) (by omega)) (by omega)) (by omega))
      have hz1255 : 61 < 128 := (by omega)
      have hz1256 : cs ≤ (cs1177 + 1) ∧ (cs1177 + 1) + 0 ≤ cs + 2 * tlE g q := (by omega)
      have hz1257 : AsE as9 as1178 := has1222.1
      have hz1258 : okA → PlQ pb B (updA (updA (updA (updA B1176 16 (upd ((B1176 16)) cs1177 10)) 17 (upd ((B1176 17)) cs1177 58)) 18 (upd ((B1176 18)) cs1177 0)) 19 (upd ((B1176 19)) cs1177 (nI hd))) Ag Ag1245 pd m9 sn lo cs (cs1177 + 1) as9 as1178 hd sl os 61 (K.2.1 0 q) := (fun z => Or.inr ⟨by rw [rsO_ne (by omega)]; exact hev1246 z, by omega⟩)
      have hO : OKP G h0 a (upd (upd (upd (upd (upd (upd (upd F 2 (nI sz)) 5 (nI (cs1177 + 1))) 7 (nI hd)) 12 (nI vr)) 13 as1178) 14 wt1179) 15 wf1180) (updR (updR R 2 (.ref pq)) 3 (.ref mq)) Z (updA (updA (updA (updA B1176 16 (upd ((B1176 16)) cs1177 10)) 17 (upd ((B1176 17)) cs1177 58)) 18 (upd ((B1176 18)) cs1177 0)) 19 (upd ((B1176 19)) cs1177 (nI hd))) J K1175 w := hO.to rfl
      refine W.widen (k := 1) (n := 6) (by omega) (by omega) ?_
      have hzz1 : H.size ≤ s.heap.size + (0) := (by have z : 0 ≤ 0 := (by omega); omega)
      have hzz2 : hSl H ≤ hSl s.heap + (0) := (by have z : 0 ≤ 0 := (by omega); omega)
      exact W.iret (v := 61) hx hb hr (fun t99 ht99 hW99 => ⟨⟨_, (w, (K1175, (updA (updA (updA (updA B1176 16 (upd ((B1176 16)) cs1177 10)) 17 (upd ((B1176 17)) cs1177 58)) 18 (upd ((B1176 18)) cs1177 0)) 19 (upd ((B1176 19)) cs1177 (nI hd))), (cs1177 + 1), as1178, wt1179, wf1180, 61, Ag1245)), rfl, ⟨rfl, hz1248, hz1249, hz1250, hz1251, hz1252, hz1253, hz1254, hz1255, hz1256, hz1257, hz1258, hO⟩, by rw [ht99]; exact hP, hD, by rw [ht99]; exact hzz1, by rw [ht99]; exact hzz2⟩, hS.F ht99⟩) hS.2.2 dX0_sign_111
    · have n1259 : r1228 = 63 := (nI_eq (a := r1228) (b := 63) (by omega) (by omega)).mp c1231
      refine lv_aload_n hx hb dX0_sign_89 rfl (lv_at hl 1 rfl) ?_
      refine c_get (v := .ref (a 1)) (C := RX0) (Tc := TX0) (N := 13) (ci := 0) hx hb hq pin_wsX00 hown hE hP hO 24 (sg_24 G h0 a _ _ _ _ _) rfl 0 (by decide) (hq _ pw_4) (fun _ h9 => h9) rfl dX0_sign_90 ?_
      refine lv_bipush (v := 11) hx hb dX0_sign_93 (by decide) ?_
      refine lv_aload_n hx hb dX0_sign_95 rfl (lv_at hl 2 rfl) ?_
      refine p_get (v := .int (K1175.2.1 1 q)) (C := RX7) (Tc := TX7) (N := 11) (ci := 13) hx hb hq pin_wsX70 hown hE hP hO (by rw [hf1203]; decide) (rep_1 hf1203) rfl 1 (by decide) (hq _ pw_81) (fun _ h9 => h9) rfl dX0_sign_96 ?_
      have hO : OKW G h0 a (upd (upd (upd (upd (upd (upd (upd (upd (upd (upd F 2 (nI sz)) 5 (nI cs)) 7 (nI hd)) 12 (nI vr)) 13 as9) 5 (nI cs1177)) 13 as1178) 14 wt1179) 15 wf1180) 2 (nI sz)) (updR (updR R 2 (.ref pq)) 3 (.ref mq)) Z B1176 J K1175.1 (fun q99 x99 => x99 = rep G a K1175 q99) w := hO.to rfl
      obtain ⟨_, qr1263, hqr1264⟩ := hO.2.1 2 _ (sg_2 G h0 a _ _ _ _ _)
      refine pn_V0 (G := G) (As := [.int 11, .int (K1175.2.1 1 q)]) (rest := []) hx hb hml hown hq hE hX pX0_al hP hD hS hA hl.1 (K_fail l G h0 a (upd (upd (upd (upd (upd (upd (upd (upd (upd F 2 (nI sz)) 5 (nI cs)) 7 (nI hd)) 12 (nI vr)) 13 as9) 5 (nI cs1177)) 13 as1178) 14 wt1179) 15 wf1180) (updR (updR R 2 (.ref pq)) 3 (.ref mq)) Z B1176 J K1175.1 (fun q99 x99 => x99 = rep G a K1175 q99) w 11 (K1175.2.1 1 q) sz (by omega) hO hl0) (gV pw_64 pw_65 pw_66 pw_59 pw_43) hV_X10_fail qr1263 7 hqr1264 rfl rfl rfl (Nat.le_of_ble_eq_true rfl) dX0_sign_99 ⟨(by show 0 + 1 ≤ 1; omega), (by show 0 + 6 ≤ 6; omega)⟩ ⟨(by show 6 + 1 ≤ (5 * n + 33); omega), (by show 8 + (3 + 11) + 100 ≤ (200 * n + 560); omega)⟩ (fun v1262 u1260 H locs hw1261 hP hD hS => hw1261.elim) (fun ux ce9 q9 H9 locs9 hux hP9 hD9 hS9 hce hcv hcl => pb_out ux (ThQ.up (Thx.same (Thx.f (Thx.f (Thx.f (Thx.f (Bth.thx hbb1210) (by omega)) (by omega)) (by omega)) (by omega)) rfl) RhX.rfl hux) hnt hlocks hce hcv hcl hP9 hD9 hS9 (by show 0 + 1 ≤ 1; omega) (by show 0 + 6 ≤ 6; omega))
  by_cases h1265 : x = 59
  · subst h1265
    refine lv_tableIn (tgt := 68) (off := 58) hx hb dX0_sign_10 (by decide) (by decide) (by decide) (by decide) ?_
    refine lv_aload_n hx hb dX0_sign_68 rfl (lv_at hl 1 rfl) ?_
    refine c_get (v := .ref pq) (C := RX0) (Tc := TX0) (N := 13) (ci := 0) hx hb hq pin_wsX00 hown hE hP hO 24 (sg_24 G h0 a _ _ _ _ _) rfl 6 (by decide) (hq _ pw_110) (fun _ h9 => h9) rfl dX0_sign_69 ?_
    refine lv_iload_n hx hb dX0_sign_72 rfl (lv_at hl 0 rfl) ?_
    refine lv_aload_n hx hb dX0_sign_73 rfl (lv_at hl 1 rfl) ?_
    refine lv_aload_n hx hb dX0_sign_74 rfl (lv_at hl 2 rfl) ?_
    refine p_get (v := .ref q2) (C := RX7) (Tc := TX7) (N := 11) (ci := 13) hx hb hq pin_wsX70 hown hE hP hO (by rw [hf35]; decide) (rep_1 hf35) rfl 7 (by decide) (hq _ pw_169) (fun _ h9 => h9) (congrArg (fun z => some (va_rf z)) hf39) dX0_sign_75 ?_
    have hO : OKP G h0 a (upd (upd (upd (upd (upd (upd (upd (upd (upd (upd (upd (upd (upd (upd F 2 (nI sz)) 5 (nI cs)) 7 (nI hd)) 12 (nI vr)) 13 as9) 5 (nI cs8)) 13 as10) 14 wt11) 15 wf12) 2 (nI sz)) 5 (nI cs8)) 7 (nI hd)) 12 (nI vr)) 13 as10) (updR (updR (updR (updR R 2 (.ref pq)) 3 (.ref mq)) 2 (.ref pq)) 3 (.ref mq)) Z B7 J K6 w := hO.to rfl
    obtain ⟨_, qr1269, hqr1270⟩ := hO.2.1 24 _ (sg_24 G h0 a _ _ _ _ _)
    refine pn_V0 (G := G) (As := [.ref q2]) (rest := [.int (nI t13), .ref pq]) hx hb hml hown hq hE hX pX0_al hP hD hS hA hl.1 ((ihv (by omega)) h0 a (upd (upd (upd (upd (upd (upd (upd (upd (upd F 2 (nI sz)) 5 (nI cs)) 7 (nI hd)) 12 (nI vr)) 13 as9) 5 (nI cs8)) 13 as10) 14 wt11) 15 wf12) (updR (updR R 2 (.ref pq)) 3 (.ref mq)) Z B7 J K6 w pq dr ml nd nm cp it s9 q2 mq cs8 vr sz g rk pb Ag14 pd sl (u15 :: os) m9 sn lo hd c0 as10 (okA ∧ ¬ t13 = 63) (by omega) (BdE.wp hbe41 hwp) (BdE.pt hbe41 hwp hps) (BdE.rko hbe41 hrk) (by omega) (by omega) hng43 hf36 hf40 ⟨hv1.1, (by have z9 := hv1; omega)⟩ (EkA.be hbe41 (hbr49 7 (by decide)) (hbr49 11 (by decide)) hek) (OwC.be hbe41 hmq hdr0 hcO) (NaB.be hbe41 hbf48 hwp hps.2.1 hdr0 (hbr49 11 (by decide)) hna) (EnV.of (hbr49 26 (by decide)) (hbr49 27 (by decide)) hen) (fun z => (hev53 z).1) (by omega) (by show os.length + 1 + ndE g q2 ≤ 248; omega) hlf1 hO hl0) (gV pw_173 pw_174 pw_175 pw_63 pw_224) hV_X0_value qr1269 0 hqr1270 rfl rfl rfl (Nat.le_of_ble_eq_true rfl) dX0_sign_78 ⟨(by show 0 + 1 ≤ 1; omega), (by show 0 + 6 ≤ 6; omega)⟩ ⟨(by show (5 * (n - 1) + 34) + 1 ≤ (5 * n + 33); omega), (by show 8 + (3 + 11) + (200 * (n - 1) + 600) ≤ (200 * n + 560); omega)⟩ (fun v1268 u1266 H locs hw1267 hP hD hS => ?_) (fun ux ce9 q9 H9 locs9 hux hP9 hD9 hS9 hce hcv hcl => pb_out ux (ThQ.up (Thx.same (Thx.same (Thx.same (Thx.same (Thx.same (Thx.f (Thx.f (Thx.f (Thx.f (Bth.thx hbb42) (by omega)) (by omega)) (by omega)) (by omega)) rfl) rfl) rfl) rfl) rfl) (show RhX (updR (updR R 2 (.ref pq)) 3 (.ref mq)) (updR (updR (updR (updR R 2 (.ref pq)) 3 (.ref mq)) 2 (.ref pq)) 3 (.ref mq)) from fun k9 hk9 => by unfold updR; simp only [show ¬ k9 = 1 by omega, show ¬ k9 = 2 by omega, show ¬ k9 = 3 by omega, show ¬ k9 = 4 by omega, if_false]) hux) hnt hlocks hce hcv hcl hP9 hD9 hS9 (by show 0 + 1 ≤ 1; omega) (by show 0 + 6 ≤ 6; omega))
    obtain ⟨w, K1271, B1272, cs1273, as1274, wt1275, wf1276, t1277, Ag1278, u1279⟩ := u1266
    obtain ⟨hw1267, h1280, h1281, h1282, h1283, h1284, h1285, h1286, h1287, h1288, h1289, h1290, h1291, hO⟩ := hw1267
    have h1280 : SmW B7 B1272 cs8 := h1280
    have h1281 : BdE K6 K1271 := h1281
    have h1282 : BeF K6 K1271 := h1282
    have h1283 : BeL K6 K1271 none := h1283
    have h1284 : BeI K6 K1271 g q2 := h1284
    have h1285 : Bth B7 B1272 := h1285
    have h1286 : BeR B7 B1272 := h1286
    have h1287 : t1277 < 128 := h1287
    have h1288 : cs8 ≤ cs1273 ∧ cs1273 + 0 ≤ cs8 + 2 * tlE g q2 := h1288
    have h1289 : AsE as10 as1274 ∧ AsE as10 wt1275 ∧ AsE as10 wf1276 := h1289
    have h1290 : (okA ∧ ¬ t13 = 63) → VaQ pb B7 B1272 Ag14 Ag1278 pd m9 sn lo cs8 cs1273 as10 as1274 wt1275 wf1276 hd sl (u15 :: os) t1277 u1279 (K6.2.1 0 q2) := h1290
    have h1291 : CaK (K6.2.1 0 q2) → cs1273 + 2 ≤ cs8 + 2 * tlE g q2 := h1291
    obtain rfl : v1268 = some (.int (nI t1277)) := hw1267
    have hf1292 : K1271.1 pq = 7 := (BdE.T h1281 hf28 (by decide))
    have hf1293 : K1271.2.2.1 18 pq = some (a 1) := (BdE.C h1281 (by rw [hf28]; decide) 18).trans hf29
    have hf1294 : K1271.2.2.1 14 pq = some dr := (BdE.C h1281 (by rw [hf28]; decide) 14).trans hf30
    have hf1295 : K1271.1 dr = 8 := (BdE.T h1281 hf31 (by decide))
    have hf1296 : K1271.2.2.1 15 pq = some ml := (BdE.C h1281 (by rw [hf28]; decide) 15).trans hf32
    have hf1297 : K1271.1 ml = 5 := (BdE.T h1281 hf33 (by decide))
    have hf1298 : K1271.2.1 24 pq = (nI nd) := (BdE.I h1281 (by rw [hf28]; decide) (by decide) (by decide)).trans hf34
    have hf1299 : K1271.1 q = 1 := (BdE.T h1281 hf35 (by decide))
    have hf1300 : K1271.1 mq = 3 := (BdE.T h1281 hf36 (by decide))
    have hf1301 : K1271.2.2.1 0 q = some q1 := (BdE.C h1281 (by rw [hf35]; decide) 0).trans hf37
    have hf1302 : K1271.1 q1 = 1 := (BdE.T h1281 hf38 (by decide))
    have hf1303 : K1271.2.2.1 1 q = some q2 := (BdE.C h1281 (by rw [hf35]; decide) 1).trans hf39
    have hf1304 : K1271.1 q2 = 1 := (BdE.T h1281 hf40 (by decide))
    have hO : OKP G h0 a (upd (upd (upd (upd (upd (upd (upd F 2 (nI sz)) 5 (nI cs1273)) 7 (nI hd)) 12 (nI vr)) 13 as1274) 14 wt1275) 15 wf1276) (updR (updR R 2 (.ref pq)) 3 (.ref mq)) Z B1272 J K1271 w := hO.to rfl
    refine W.widen (k := 0) (n := 0) (by show 0 + 0 ≤ 0; omega) (by show 0 + 0 ≤ 0; omega) ?_
    refine W.eq (g2 := F0 m 81 ls [.int (nI t1277), .int (nI t13), .ref pq]) rfl ?_
    have hbe1305 := BdE.trans hbe41 h1281
    have hbb1306 : Bth B B1272 := Bth.trans (show Thx (upd (upd (upd (upd (upd F 2 (nI sz)) 5 (nI cs)) 7 (nI hd)) 12 (nI vr)) 13 as9) (upd (upd (upd (upd (upd (upd (upd (upd (upd F 2 (nI sz)) 5 (nI cs)) 7 (nI hd)) 12 (nI vr)) 13 as9) 5 (nI cs8)) 13 as10) 14 wt11) 15 wf12) B B7 from (Thx.f (Thx.f (Thx.f (Thx.f (Bth.thx hbb42) (by omega)) (by omega)) (by omega)) (by omega))).2 h1285
    have hng1307 : Nng (B1272 18) := h1285.2 hng43
    have hsw1308 : ∀ x9 : Nat, x9 < cs → (B1272 16) x9 = B 16 x9 := fun x9 hx9 => ((h1280 x9 (by omega)).1).trans (hsw44 x9 hx9)
    have hsw1309 : ∀ x9 : Nat, x9 < cs → (B1272 17) x9 = B 17 x9 := fun x9 hx9 => ((h1280 x9 (by omega)).2.1).trans (hsw45 x9 hx9)
    have hsw1310 : ∀ x9 : Nat, x9 < cs → (B1272 18) x9 = B 18 x9 := fun x9 hx9 => ((h1280 x9 (by omega)).2.2.1).trans (hsw46 x9 hx9)
    have hsw1311 : ∀ x9 : Nat, x9 < cs → (B1272 19) x9 = B 19 x9 := fun x9 hx9 => ((h1280 x9 (by omega)).2.2.2).trans (hsw47 x9 hx9)
    have hbf1312 := BeF.trans hbf48 h1282 hbe41
    have hbl1315 := BeL.trans hbl51 h1283 hbe41
    have hbi1316 := BeI.trans hbi52 h1284 hbe41 hin1
    have hbr1313 : BeR B B1272 := BeR.trans hbr49 h1286
    have hpt1314 : ((okA ∧ ¬ t13 = 63) ∧ ¬ t1277 = 63) → EvQ pb.1 pb.2.1 pb.2.2.1 pb.2.2.2 (B 16) (B 17) (B 18) (B 19) (B1272 16) (B1272 17) (B1272 18) (B1272 19) Ag Ag1278 pd m9 sn lo cs cs1273 as9 as1274 hd sl (u1279 :: (u15 :: os)) ∧ UTb u1279 (nI t1277) as1274 wt1275 wf1276 := fun z => VaQ.part (B1 := B7) (hev53 z.1) (h1290 z.1) h1287 z.2
    have hev1317 := fun z => (hpt1314 z).1
    have has1318 : AsE as9 as1274 ∧ AsE as9 wt1275 ∧ AsE as9 wf1276 := ⟨AsE.trans has54.1 h1289.1, AsE.trans has54.1 h1289.2.1, AsE.trans has54.1 h1289.2.2⟩
    have hO : OKP G h0 a (upd (upd (upd (upd (upd (upd (upd F 2 (nI sz)) 5 (nI cs1273)) 7 (nI hd)) 12 (nI vr)) 13 as1274) 14 wt1275) 15 wf1276) (updR (updR R 2 (.ref pq)) 3 (.ref mq)) Z B1272 J K1271 w := hO.to rfl
    obtain ⟨qr1322, hqr1323⟩ := p_recv hO (by rw [hf1292]; decide) (rep_7 hf1292)
    refine pc_V0 (G := G) (As := [.int (nI t13), .int (nI t1277)]) (rest := []) hx hb hml hown hq hE hX pX0_al hP hD hS hA hl.1 (Y_common l G h0 a (upd (upd (upd (upd (upd (upd (upd F 2 (nI sz)) 5 (nI cs1273)) 7 (nI hd)) 12 (nI vr)) 13 as1274) 14 wt1275) 15 wf1276) (updR (updR R 2 (.ref pq)) 3 (.ref mq)) Z B1272 J K1271 w pq dr ml nd t13 t1277 g (BdE.pt hbe1305 hwp hps).1 (BdE.pt hbe1305 hwp hps).2.1 (by omega) hO) (gV pw_203 pw_204 pw_205 pw_106 pw_135) hV_X9_common qr1322 6 hqr1323 rfl rfl rfl (Nat.le_of_ble_eq_true rfl) dX0_sign_81 ⟨(by show 0 + 0 ≤ 1; omega), (by show 0 + 0 ≤ 6; omega)⟩ ⟨(by show 4 + 1 ≤ (5 * n + 33); omega), (by show 8 + (3 + 11) + 104 ≤ (200 * n + 560); omega)⟩ (fun v1321 u1319 H locs hw1320 hP hD hS => ?_)
    obtain ⟨w, r1324⟩ := u1319
    obtain ⟨hw1320, h1325, hO⟩ := hw1320
    have h1325 : CoQ (btK K1271 dr) nd t13 t1277 r1324 := h1325
    obtain rfl : v1321 = some (.int (nI r1324)) := hw1320
    have hO : OKP G h0 a (upd (upd (upd (upd (upd (upd (upd F 2 (nI sz)) 5 (nI cs1273)) 7 (nI hd)) 12 (nI vr)) 13 as1274) 14 wt1275) 15 wf1276) (updR (updR R 2 (.ref pq)) 3 (.ref mq)) Z B1272 J K1271 w := hO.to rfl
    refine W.widen (k := 0) (n := 0) (Nat.le_of_ble_eq_true rfl) (Nat.le_of_ble_eq_true rfl) ?_
    refine W.eq (g2 := F0 m 84 ls [.int (nI r1324)]) rfl ?_
    have hcl1326 := CoQ.lt h1325 (by omega) (by omega)
    refine lv_bipush (v := 63) hx hb dX0_sign_84 (by decide) ?_
    refine lv_icmp_ne (tgt := 102) hx hb dX0_sign_86 (by decide) (fun c1327 => ?_) (fun c1327 => ?_)
    · have n1328 : ¬ (r1324 = 63) := fun h9 => c1327 ((nI_eq (a := r1324) (b := 63) (by omega) (by omega)).mpr h9)
      have hc63 : ¬ r1324 = 63 := by first | omega | exact fun e9 => c1327 (congrArg nI e9)
      refine lv_aload_n hx hb dX0_sign_102 rfl (lv_at hl 1 rfl) ?_
      refine lv_bipush (v := 10) hx hb dX0_sign_103 (by decide) ?_
      refine lv_iload_n hx hb dX0_sign_105 rfl (lv_at hl 3 rfl) ?_
      refine lv_bipush (v := 61) hx hb dX0_sign_106 (by decide) ?_
      have hn63 := CoQ.n63 h1325 hc63
      have hut1329 := fun z : okA => (hpt50 ⟨z, hn63.1⟩).2
      have hut1330 := fun z : okA => (hpt1314 ⟨⟨z, hn63.1⟩, hn63.2⟩).2
      have hev1331 := fun z : okA => hev1317 ⟨⟨z, hn63.1⟩, hn63.2⟩
      have hO : OKW G h0 a (upd (upd (upd (upd (upd (upd (upd (upd (upd F 2 (nI sz)) 5 (nI cs1273)) 7 (nI hd)) 12 (nI vr)) 13 as1274) 14 wt1275) 15 wf1276) 5 (nI cs1273)) 7 (nI hd)) (updR (updR R 2 (.ref pq)) 3 (.ref mq)) Z B1272 J K1271.1 (fun q99 x99 => x99 = rep G a K1271 q99) w := hO.to rfl
      obtain ⟨_, qr1335, hqr1336⟩ := hO.2.1 24 _ (sg_24 G h0 a _ _ _ _ _)
      refine pc_V0 (G := G) (As := [.int 10, .int 59, .int 61]) (rest := []) hx hb hml hown hq hE hX pX0_al hP hD hS hA hl.1 (Y_give l G h0 a (upd (upd (upd (upd (upd (upd (upd F 2 (nI sz)) 5 (nI cs1273)) 7 (nI hd)) 12 (nI vr)) 13 as1274) 14 wt1275) 15 wf1276) (updR (updR R 2 (.ref pq)) 3 (.ref mq)) Z B1272 J K1271.1 (fun q99 x99 => x99 = rep G a K1271 q99) w 10 59 61 cs1273 hd (by omega) hO) (gV pw_158 pw_159 pw_160 pw_63 pw_128) hV_X0_give qr1335 0 hqr1336 rfl rfl rfl (Nat.le_of_ble_eq_true rfl) dX0_sign_108 ⟨(by show 0 + 0 ≤ 1; omega), (by show 0 + 0 ≤ 6; omega)⟩ ⟨(by show 3 + 1 ≤ (5 * n + 33); omega), (by show 8 + (4 + 11) + 83 ≤ (200 * n + 560); omega)⟩ (fun v1334 u1332 H locs hw1333 hP hD hS => ?_)
      obtain ⟨w, _⟩ := u1332
      obtain ⟨hw1333, hO⟩ := hw1333
      obtain rfl : v1334 = some (.int 61) := hw1333
      have hO : OKP G h0 a (upd (upd (upd (upd (upd (upd (upd F 2 (nI sz)) 5 (nI (cs1273 + 1))) 7 (nI hd)) 12 (nI vr)) 13 as1274) 14 wt1275) 15 wf1276) (updR (updR R 2 (.ref pq)) 3 (.ref mq)) Z (updA (updA (updA (updA B1272 16 (upd ((B1272 16)) cs1273 10)) 17 (upd ((B1272 17)) cs1273 59)) 18 (upd ((B1272 18)) cs1273 0)) 19 (upd ((B1272 19)) cs1273 (nI hd))) J K1271 w := hO.to rfl
      refine W.widen (k := 0) (n := 0) (Nat.le_of_ble_eq_true rfl) (Nat.le_of_ble_eq_true rfl) ?_
      refine W.eq (g2 := F0 m 111 ls [.int 61]) rfl ?_
      have hsw1337 : ∀ x9 : Nat, x9 < cs → (upd ((B1272 16)) cs1273 10) x9 = B 16 x9 := fun x9 hx9 => (if_neg (by omega)).trans (hsw1308 x9 hx9)
      have hsw1338 : ∀ x9 : Nat, x9 < cs → (upd ((B1272 17)) cs1273 59) x9 = B 17 x9 := fun x9 hx9 => (if_neg (by omega)).trans (hsw1309 x9 hx9)
      have hsw1339 : ∀ x9 : Nat, x9 < cs → (upd ((B1272 18)) cs1273 0) x9 = B 18 x9 := fun x9 hx9 => (if_neg (by omega)).trans (hsw1310 x9 hx9)
      have hsw1340 : ∀ x9 : Nat, x9 < cs → (upd ((B1272 19)) cs1273 (nI hd)) x9 = B 19 x9 := fun x9 hx9 => (if_neg (by omega)).trans (hsw1311 x9 hx9)
      obtain ⟨Ag1341, hev1342⟩ : ∃ A5 : Nat → AS, okA → EvQ pb.1 pb.2.1 pb.2.2.1 pb.2.2.2 (B 16) (B 17) (B 18) (B 19) (upd ((B1272 16)) cs1273 10) (upd ((B1272 17)) cs1273 59) (upd ((B1272 18)) cs1273 0) (upd ((B1272 19)) cs1273 (nI hd)) Ag A5 pd m9 sn lo cs (cs1273 + 1) as9 as1274 hd sl (61 :: os) := ⟨(upS Ag1278 (cs1273 + 1) (rcA as1274, hd, sl, (61 :: os))), fun z => (hev1331 z).trans (EmS.sign (hev1331 z).1 (by show os.length + 1 + 1 ≤ 248; omega) (SgT.cmp (by decide)))⟩
      have hng9 : Nng (upd ((B1272 18)) cs1273 0) := Nng.set hng1307 (k := 0) (by omega)
      have hng1343 := hng9
      refine W_size (fun hz1 hz2 => ?_)
      refine vx_ret ?_
      have hz1344 : SmW B (updA (updA (updA (updA B1272 16 (upd ((B1272 16)) cs1273 10)) 17 (upd ((B1272 17)) cs1273 59)) 18 (upd ((B1272 18)) cs1273 0)) 19 (upd ((B1272 19)) cs1273 (nI hd))) cs := (fun x9 hx9 => ⟨hsw1337 x9 hx9, hsw1338 x9 hx9, hsw1339 x9 hx9, hsw1340 x9 hx9⟩)
      have hz1345 : BdE K K1271 := hbe1305
      have hz1346 : BeF K K1271 := hbf1312
      have hz1347 : BeL K K1271 none := hbl1315
      have hz1348 : BeI K K1271 g q := hbi1316
      have hz1349 : Bth B (updA (updA (updA (updA B1272 16 (upd ((B1272 16)) cs1273 10)) 17 (upd ((B1272 17)) cs1273 59)) 18 (upd ((B1272 18)) cs1273 0)) 19 (upd ((B1272 19)) cs1273 (nI hd))) := (show Thx (upd (upd (upd (upd (upd F 2 (nI sz)) 5 (nI cs)) 7 (nI hd)) 12 (nI vr)) 13 as9) (upd (upd (upd (upd (upd (upd (upd (upd (upd F 2 (nI sz)) 5 (nI cs)) 7 (nI hd)) 12 (nI vr)) 13 as9) 5 (nI (cs1273 + 1))) 13 as1274) 14 wt1275) 15 wf1276) B (updA (updA (updA (updA B1272 16 (upd ((B1272 16)) cs1273 10)) 17 (upd ((B1272 17)) cs1273 59)) 18 (upd ((B1272 18)) cs1273 0)) 19 (upd ((B1272 19)) cs1273 (nI hd))) from (Thx.b (Thx.b8 (Thx.b (Thx.b (Thx.f (Thx.f (Thx.f (Thx.f (Bth.thx hbb1306) (by omega)) (by omega)) (by omega)) (by omega)) (by omega) (by decide)) (by omega) (by decide)) hng1343) (by omega) (by decide))).2
      have hz1350 : BeR B (updA (updA (updA (updA B1272 16 (upd ((B1272 16)) cs1273 10)) 17 (upd ((B1272 17)) cs1273 59)) 18 (upd ((B1272 18)) cs1273 0)) 19 (upd ((B1272 19)) cs1273 (nI hd))) := (BeR.up (k := 19) (f := (upd ((B1272 19)) cs1273 (nI hd))) (BeR.up (k := 18) (f := (upd ((B1272 18)) cs1273 0)) (BeR.up (k := 17) (f := (upd ((B1272 17)) cs1273 59)) (BeR.up (k := 16) (f := (upd ((B1272 16)) cs1273 10)) hbr1313 (by omega)) (by omega)) (by omega)) (by omega))
      have hz1351 : 61 < 128 := (by omega)
      have hz1352 : cs ≤ (cs1273 + 1) ∧ (cs1273 + 1) + 0 ≤ cs + 2 * tlE g q := (by omega)
      have hz1353 : AsE as9 as1274 := has1318.1
      have hz1354 : okA → PlQ pb B (updA (updA (updA (updA B1272 16 (upd ((B1272 16)) cs1273 10)) 17 (upd ((B1272 17)) cs1273 59)) 18 (upd ((B1272 18)) cs1273 0)) 19 (upd ((B1272 19)) cs1273 (nI hd))) Ag Ag1341 pd m9 sn lo cs (cs1273 + 1) as9 as1274 hd sl os 61 (K.2.1 0 q) := (fun z => Or.inr ⟨by rw [rsO_ne (by omega)]; exact hev1342 z, by omega⟩)
      have hO : OKP G h0 a (upd (upd (upd (upd (upd (upd (upd F 2 (nI sz)) 5 (nI (cs1273 + 1))) 7 (nI hd)) 12 (nI vr)) 13 as1274) 14 wt1275) 15 wf1276) (updR (updR R 2 (.ref pq)) 3 (.ref mq)) Z (updA (updA (updA (updA B1272 16 (upd ((B1272 16)) cs1273 10)) 17 (upd ((B1272 17)) cs1273 59)) 18 (upd ((B1272 18)) cs1273 0)) 19 (upd ((B1272 19)) cs1273 (nI hd))) J K1271 w := hO.to rfl
      refine W.widen (k := 1) (n := 6) (by omega) (by omega) ?_
      have hzz1 : H.size ≤ s.heap.size + (0) := (by have z : 0 ≤ 0 := (by omega); omega)
      have hzz2 : hSl H ≤ hSl s.heap + (0) := (by have z : 0 ≤ 0 := (by omega); omega)
      exact W.iret (v := 61) hx hb hr (fun t99 ht99 hW99 => ⟨⟨_, (w, (K1271, (updA (updA (updA (updA B1272 16 (upd ((B1272 16)) cs1273 10)) 17 (upd ((B1272 17)) cs1273 59)) 18 (upd ((B1272 18)) cs1273 0)) 19 (upd ((B1272 19)) cs1273 (nI hd))), (cs1273 + 1), as1274, wt1275, wf1276, 61, Ag1341)), rfl, ⟨rfl, hz1344, hz1345, hz1346, hz1347, hz1348, hz1349, hz1350, hz1351, hz1352, hz1353, hz1354, hO⟩, by rw [ht99]; exact hP, hD, by rw [ht99]; exact hzz1, by rw [ht99]; exact hzz2⟩, hS.F ht99⟩) hS.2.2 dX0_sign_111
    · have n1355 : r1324 = 63 := (nI_eq (a := r1324) (b := 63) (by omega) (by omega)).mp c1327
      refine lv_aload_n hx hb dX0_sign_89 rfl (lv_at hl 1 rfl) ?_
      refine c_get (v := .ref (a 1)) (C := RX0) (Tc := TX0) (N := 13) (ci := 0) hx hb hq pin_wsX00 hown hE hP hO 24 (sg_24 G h0 a _ _ _ _ _) rfl 0 (by decide) (hq _ pw_4) (fun _ h9 => h9) rfl dX0_sign_90 ?_
      refine lv_bipush (v := 11) hx hb dX0_sign_93 (by decide) ?_
      refine lv_aload_n hx hb dX0_sign_95 rfl (lv_at hl 2 rfl) ?_
      refine p_get (v := .int (K1271.2.1 1 q)) (C := RX7) (Tc := TX7) (N := 11) (ci := 13) hx hb hq pin_wsX70 hown hE hP hO (by rw [hf1299]; decide) (rep_1 hf1299) rfl 1 (by decide) (hq _ pw_81) (fun _ h9 => h9) rfl dX0_sign_96 ?_
      have hO : OKW G h0 a (upd (upd (upd (upd (upd (upd (upd (upd (upd (upd F 2 (nI sz)) 5 (nI cs)) 7 (nI hd)) 12 (nI vr)) 13 as9) 5 (nI cs1273)) 13 as1274) 14 wt1275) 15 wf1276) 2 (nI sz)) (updR (updR R 2 (.ref pq)) 3 (.ref mq)) Z B1272 J K1271.1 (fun q99 x99 => x99 = rep G a K1271 q99) w := hO.to rfl
      obtain ⟨_, qr1359, hqr1360⟩ := hO.2.1 2 _ (sg_2 G h0 a _ _ _ _ _)
      refine pn_V0 (G := G) (As := [.int 11, .int (K1271.2.1 1 q)]) (rest := []) hx hb hml hown hq hE hX pX0_al hP hD hS hA hl.1 (K_fail l G h0 a (upd (upd (upd (upd (upd (upd (upd (upd (upd F 2 (nI sz)) 5 (nI cs)) 7 (nI hd)) 12 (nI vr)) 13 as9) 5 (nI cs1273)) 13 as1274) 14 wt1275) 15 wf1276) (updR (updR R 2 (.ref pq)) 3 (.ref mq)) Z B1272 J K1271.1 (fun q99 x99 => x99 = rep G a K1271 q99) w 11 (K1271.2.1 1 q) sz (by omega) hO hl0) (gV pw_64 pw_65 pw_66 pw_59 pw_43) hV_X10_fail qr1359 7 hqr1360 rfl rfl rfl (Nat.le_of_ble_eq_true rfl) dX0_sign_99 ⟨(by show 0 + 1 ≤ 1; omega), (by show 0 + 6 ≤ 6; omega)⟩ ⟨(by show 6 + 1 ≤ (5 * n + 33); omega), (by show 8 + (3 + 11) + 100 ≤ (200 * n + 560); omega)⟩ (fun v1358 u1356 H locs hw1357 hP hD hS => hw1357.elim) (fun ux ce9 q9 H9 locs9 hux hP9 hD9 hS9 hce hcv hcl => pb_out ux (ThQ.up (Thx.same (Thx.f (Thx.f (Thx.f (Thx.f (Bth.thx hbb1306) (by omega)) (by omega)) (by omega)) (by omega)) rfl) RhX.rfl hux) hnt hlocks hce hcv hcl hP9 hD9 hS9 (by show 0 + 1 ≤ 1; omega) (by show 0 + 6 ≤ 6; omega))
  refine lv_tableOut (tgt := 166) hx hb dX0_sign_10 (sw_out59 h55 h237 h419 h601 h695 h789 h884 h979 h1074 h1169 h1265) (by decide) ?_
  refine lv_aload_n hx hb dX0_sign_166 rfl (lv_at hl 1 rfl) ?_
  refine lv_aload_n hx hb dX0_sign_167 rfl (lv_at hl 2 rfl) ?_
  refine p_get (v := .ref q1) (C := RX7) (Tc := TX7) (N := 11) (ci := 13) hx hb hq pin_wsX70 hown hE hP hO (by rw [hf35]; decide) (rep_1 hf35) rfl 6 (by decide) (hq _ pw_180) (fun _ h9 => h9) (congrArg (fun z => some (va_rf z)) hf37) dX0_sign_168 ?_
  refine lv_iload_n hx hb dX0_sign_171 rfl (lv_at hl 0 rfl) ?_
  refine lv_bipush (v := 60) hx hb dX0_sign_172 (by decide) ?_
  have hO : OKP G h0 a (upd (upd (upd (upd (upd (upd (upd (upd (upd (upd F 2 (nI sz)) 5 (nI cs)) 7 (nI hd)) 12 (nI vr)) 13 as9) 5 (nI cs8)) 13 as10) 14 wt11) 15 wf12) 2 (nI sz)) (updR (updR (updR R 2 (.ref pq)) 3 (.ref mq)) 2 (.ref pq)) Z B7 J K6 w := hO.to rfl
  obtain ⟨_, qr1364, hqr1365⟩ := hO.2.1 24 _ (sg_24 G h0 a _ _ _ _ _)
  refine pn_V0 (G := G) (As := [.ref q1, .int (nI t13), .int (nI 60)]) (rest := []) hx hb hml hown hq hE hX pX0_al hP hD hS hA hl.1 (Y_fit l G h0 a (upd (upd (upd (upd (upd (upd (upd (upd (upd F 2 (nI sz)) 5 (nI cs)) 7 (nI hd)) 12 (nI vr)) 13 as9) 5 (nI cs8)) 13 as10) 14 wt11) 15 wf12) (updR (updR R 2 (.ref pq)) 3 (.ref mq)) Z B7 J K6 w pq dr ml nd q1 sz t13 60 g pb (by omega) (BdE.pt hbe41 hwp hps).1 (BdE.pt hbe41 hwp hps).2.1 hf38 (by omega) hna.1.1 (NaB.be hbe41 hbf48 hwp hps.2.1 hdr0 (hbr49 11 (by decide)) hna).1.2.2 hO hl0) (gV pw_176 pw_177 pw_178 pw_63 pw_114) hV_X0_fit qr1364 0 hqr1365 rfl rfl rfl (Nat.le_of_ble_eq_true rfl) dX0_sign_174 ⟨(by show 0 + 1 ≤ 1; omega), (by show 0 + 6 ≤ 6; omega)⟩ ⟨(by show 7 + 1 ≤ (5 * n + 33); omega), (by show 8 + (4 + 11) + 122 ≤ (200 * n + 560); omega)⟩ (fun v1363 u1361 H locs hw1362 hP hD hS => ?_) (fun ux ce9 q9 H9 locs9 hux hP9 hD9 hS9 hce hcv hcl => pb_out ux (ThQ.up (Thx.same (Thx.f (Thx.f (Thx.f (Thx.f (Bth.thx hbb42) (by omega)) (by omega)) (by omega)) (by omega)) rfl) (show RhX (updR (updR R 2 (.ref pq)) 3 (.ref mq)) (updR (updR (updR R 2 (.ref pq)) 3 (.ref mq)) 2 (.ref pq)) from fun k9 hk9 => by unfold updR; simp only [show ¬ k9 = 1 by omega, show ¬ k9 = 2 by omega, show ¬ k9 = 3 by omega, show ¬ k9 = 4 by omega, if_false]) hux) hnt hlocks hce hcv hcl hP9 hD9 hS9 (by show 0 + 1 ≤ 1; omega) (by show 0 + 6 ≤ 6; omega))
  obtain ⟨w, _⟩ := u1361
  obtain ⟨hw1362, h1366, hO⟩ := hw1362
  have h1366 : FtQ pb t13 60 := h1366
  obtain rfl : v1363 = none := hw1362
  have hO : OKP G h0 a (upd (upd (upd (upd (upd (upd (upd F 2 (nI sz)) 5 (nI cs8)) 7 (nI hd)) 12 (nI vr)) 13 as10) 14 wt11) 15 wf12) (updR (updR R 2 (.ref pq)) 3 (.ref mq)) Z B7 J K6 w := hO.to rfl
  refine W.widen (k := 0) (n := 0) (by show 0 + 0 ≤ 0; omega) (by show 0 + 0 ≤ 0; omega) ?_
  refine W.eq (g2 := F0 m 177 ls []) rfl ?_
  refine lv_aload_n hx hb dX0_sign_177 rfl (lv_at hl 1 rfl) ?_
  refine lv_aload_n hx hb dX0_sign_178 rfl (lv_at hl 2 rfl) ?_
  refine p_get (v := .ref q2) (C := RX7) (Tc := TX7) (N := 11) (ci := 13) hx hb hq pin_wsX70 hown hE hP hO (by rw [hf35]; decide) (rep_1 hf35) rfl 7 (by decide) (hq _ pw_169) (fun _ h9 => h9) (congrArg (fun z => some (va_rf z)) hf39) dX0_sign_179 ?_
  refine lv_aload_n hx hb dX0_sign_182 rfl (lv_at hl 1 rfl) ?_
  refine lv_aload_n hx hb dX0_sign_183 rfl (lv_at hl 2 rfl) ?_
  refine p_get (v := .ref q2) (C := RX7) (Tc := TX7) (N := 11) (ci := 13) hx hb hq pin_wsX70 hown hE hP hO (by rw [hf35]; decide) (rep_1 hf35) rfl 7 (by decide) (hq _ pw_169) (fun _ h9 => h9) (congrArg (fun z => some (va_rf z)) hf39) dX0_sign_184 ?_
  have hO : OKP G h0 a (upd (upd (upd (upd (upd (upd (upd (upd (upd (upd (upd (upd (upd (upd F 2 (nI sz)) 5 (nI cs)) 7 (nI hd)) 12 (nI vr)) 13 as9) 5 (nI cs8)) 13 as10) 14 wt11) 15 wf12) 2 (nI sz)) 5 (nI cs8)) 7 (nI hd)) 12 (nI vr)) 13 as10) (updR (updR (updR (updR R 2 (.ref pq)) 3 (.ref mq)) 2 (.ref pq)) 3 (.ref mq)) Z B7 J K6 w := hO.to rfl
  obtain ⟨_, qr1370, hqr1371⟩ := hO.2.1 24 _ (sg_24 G h0 a _ _ _ _ _)
  refine pn_V0 (G := G) (As := [.ref q2]) (rest := [.ref q2, .ref (a 4)]) hx hb hml hown hq hE hX pX0_al hP hD hS hA hl.1 ((ihv (by omega)) h0 a (upd (upd (upd (upd (upd (upd (upd (upd (upd F 2 (nI sz)) 5 (nI cs)) 7 (nI hd)) 12 (nI vr)) 13 as9) 5 (nI cs8)) 13 as10) 14 wt11) 15 wf12) (updR (updR R 2 (.ref pq)) 3 (.ref mq)) Z B7 J K6 w pq dr ml nd nm cp it s9 q2 mq cs8 vr sz g rk pb Ag14 pd sl (u15 :: os) m9 sn lo hd c0 as10 (okA ∧ ¬ t13 = 63) (by omega) (BdE.wp hbe41 hwp) (BdE.pt hbe41 hwp hps) (BdE.rko hbe41 hrk) (by omega) (by omega) hng43 hf36 hf40 ⟨hv1.1, (by have z9 := hv1; omega)⟩ (EkA.be hbe41 (hbr49 7 (by decide)) (hbr49 11 (by decide)) hek) (OwC.be hbe41 hmq hdr0 hcO) (NaB.be hbe41 hbf48 hwp hps.2.1 hdr0 (hbr49 11 (by decide)) hna) (EnV.of (hbr49 26 (by decide)) (hbr49 27 (by decide)) hen) (fun z => (hev53 z).1) (by omega) (by show os.length + 1 + ndE g q2 ≤ 248; omega) hlf1 hO hl0) (gV pw_173 pw_174 pw_175 pw_63 pw_224) hV_X0_value qr1370 0 hqr1371 rfl rfl rfl (Nat.le_of_ble_eq_true rfl) dX0_sign_187 ⟨(by show 0 + 1 ≤ 1; omega), (by show 0 + 6 ≤ 6; omega)⟩ ⟨(by show (5 * (n - 1) + 34) + 1 ≤ (5 * n + 33); omega), (by show 8 + (3 + 11) + (200 * (n - 1) + 600) ≤ (200 * n + 560); omega)⟩ (fun v1369 u1367 H locs hw1368 hP hD hS => ?_) (fun ux ce9 q9 H9 locs9 hux hP9 hD9 hS9 hce hcv hcl => pb_out ux (ThQ.up (Thx.same (Thx.same (Thx.same (Thx.same (Thx.same (Thx.f (Thx.f (Thx.f (Thx.f (Bth.thx hbb42) (by omega)) (by omega)) (by omega)) (by omega)) rfl) rfl) rfl) rfl) rfl) (show RhX (updR (updR R 2 (.ref pq)) 3 (.ref mq)) (updR (updR (updR (updR R 2 (.ref pq)) 3 (.ref mq)) 2 (.ref pq)) 3 (.ref mq)) from fun k9 hk9 => by unfold updR; simp only [show ¬ k9 = 1 by omega, show ¬ k9 = 2 by omega, show ¬ k9 = 3 by omega, show ¬ k9 = 4 by omega, if_false]) hux) hnt hlocks hce hcv hcl hP9 hD9 hS9 (by show 0 + 1 ≤ 1; omega) (by show 0 + 6 ≤ 6; omega))
  obtain ⟨w, K1372, B1373, cs1374, as1375, wt1376, wf1377, t1378, Ag1379, u1380⟩ := u1367
  obtain ⟨hw1368, h1381, h1382, h1383, h1384, h1385, h1386, h1387, h1388, h1389, h1390, h1391, h1392, hO⟩ := hw1368
  have h1381 : SmW B7 B1373 cs8 := h1381
  have h1382 : BdE K6 K1372 := h1382
  have h1383 : BeF K6 K1372 := h1383
  have h1384 : BeL K6 K1372 none := h1384
  have h1385 : BeI K6 K1372 g q2 := h1385
  have h1386 : Bth B7 B1373 := h1386
  have h1387 : BeR B7 B1373 := h1387
  have h1388 : t1378 < 128 := h1388
  have h1389 : cs8 ≤ cs1374 ∧ cs1374 + 0 ≤ cs8 + 2 * tlE g q2 := h1389
  have h1390 : AsE as10 as1375 ∧ AsE as10 wt1376 ∧ AsE as10 wf1377 := h1390
  have h1391 : (okA ∧ ¬ t13 = 63) → VaQ pb B7 B1373 Ag14 Ag1379 pd m9 sn lo cs8 cs1374 as10 as1375 wt1376 wf1377 hd sl (u15 :: os) t1378 u1380 (K6.2.1 0 q2) := h1391
  have h1392 : CaK (K6.2.1 0 q2) → cs1374 + 2 ≤ cs8 + 2 * tlE g q2 := h1392
  obtain rfl : v1369 = some (.int (nI t1378)) := hw1368
  have hf1393 : K1372.1 pq = 7 := (BdE.T h1382 hf28 (by decide))
  have hf1394 : K1372.2.2.1 18 pq = some (a 1) := (BdE.C h1382 (by rw [hf28]; decide) 18).trans hf29
  have hf1395 : K1372.2.2.1 14 pq = some dr := (BdE.C h1382 (by rw [hf28]; decide) 14).trans hf30
  have hf1396 : K1372.1 dr = 8 := (BdE.T h1382 hf31 (by decide))
  have hf1397 : K1372.2.2.1 15 pq = some ml := (BdE.C h1382 (by rw [hf28]; decide) 15).trans hf32
  have hf1398 : K1372.1 ml = 5 := (BdE.T h1382 hf33 (by decide))
  have hf1399 : K1372.2.1 24 pq = (nI nd) := (BdE.I h1382 (by rw [hf28]; decide) (by decide) (by decide)).trans hf34
  have hf1400 : K1372.1 q = 1 := (BdE.T h1382 hf35 (by decide))
  have hf1401 : K1372.1 mq = 3 := (BdE.T h1382 hf36 (by decide))
  have hf1402 : K1372.2.2.1 0 q = some q1 := (BdE.C h1382 (by rw [hf35]; decide) 0).trans hf37
  have hf1403 : K1372.1 q1 = 1 := (BdE.T h1382 hf38 (by decide))
  have hf1404 : K1372.2.2.1 1 q = some q2 := (BdE.C h1382 (by rw [hf35]; decide) 1).trans hf39
  have hf1405 : K1372.1 q2 = 1 := (BdE.T h1382 hf40 (by decide))
  have hO : OKP G h0 a (upd (upd (upd (upd (upd (upd (upd F 2 (nI sz)) 5 (nI cs1374)) 7 (nI hd)) 12 (nI vr)) 13 as1375) 14 wt1376) 15 wf1377) (updR (updR R 2 (.ref pq)) 3 (.ref mq)) Z B1373 J K1372 w := hO.to rfl
  refine W.widen (k := 0) (n := 0) (by show 0 + 0 ≤ 0; omega) (by show 0 + 0 ≤ 0; omega) ?_
  refine W.eq (g2 := F0 m 190 ls [.int (nI t1378), .ref q2, .ref (a 4)]) rfl ?_
  have hbe1406 := BdE.trans hbe41 h1382
  have hbb1407 : Bth B B1373 := Bth.trans (show Thx (upd (upd (upd (upd (upd F 2 (nI sz)) 5 (nI cs)) 7 (nI hd)) 12 (nI vr)) 13 as9) (upd (upd (upd (upd (upd (upd (upd (upd (upd F 2 (nI sz)) 5 (nI cs)) 7 (nI hd)) 12 (nI vr)) 13 as9) 5 (nI cs8)) 13 as10) 14 wt11) 15 wf12) B B7 from (Thx.f (Thx.f (Thx.f (Thx.f (Bth.thx hbb42) (by omega)) (by omega)) (by omega)) (by omega))).2 h1386
  have hng1408 : Nng (B1373 18) := h1386.2 hng43
  have hsw1409 : ∀ x9 : Nat, x9 < cs → (B1373 16) x9 = B 16 x9 := fun x9 hx9 => ((h1381 x9 (by omega)).1).trans (hsw44 x9 hx9)
  have hsw1410 : ∀ x9 : Nat, x9 < cs → (B1373 17) x9 = B 17 x9 := fun x9 hx9 => ((h1381 x9 (by omega)).2.1).trans (hsw45 x9 hx9)
  have hsw1411 : ∀ x9 : Nat, x9 < cs → (B1373 18) x9 = B 18 x9 := fun x9 hx9 => ((h1381 x9 (by omega)).2.2.1).trans (hsw46 x9 hx9)
  have hsw1412 : ∀ x9 : Nat, x9 < cs → (B1373 19) x9 = B 19 x9 := fun x9 hx9 => ((h1381 x9 (by omega)).2.2.2).trans (hsw47 x9 hx9)
  have hbf1413 := BeF.trans hbf48 h1383 hbe41
  have hbl1416 := BeL.trans hbl51 h1384 hbe41
  have hbi1417 := BeI.trans hbi52 h1385 hbe41 hin1
  have hbr1414 : BeR B B1373 := BeR.trans hbr49 h1387
  have hpt1415 : ((okA ∧ ¬ t13 = 63) ∧ ¬ t1378 = 63) → EvQ pb.1 pb.2.1 pb.2.2.1 pb.2.2.2 (B 16) (B 17) (B 18) (B 19) (B1373 16) (B1373 17) (B1373 18) (B1373 19) Ag Ag1379 pd m9 sn lo cs cs1374 as9 as1375 hd sl (u1380 :: (u15 :: os)) ∧ UTb u1380 (nI t1378) as1375 wt1376 wf1377 := fun z => VaQ.part (B1 := B7) (hev53 z.1) (h1391 z.1) h1388 z.2
  have hev1418 := fun z => (hpt1415 z).1
  have has1419 : AsE as9 as1375 ∧ AsE as9 wt1376 ∧ AsE as9 wf1377 := ⟨AsE.trans has54.1 h1390.1, AsE.trans has54.1 h1390.2.1, AsE.trans has54.1 h1390.2.2⟩
  refine lv_bipush (v := 60) hx hb dX0_sign_190 (by decide) ?_
  have hO : OKP G h0 a (upd (upd (upd (upd (upd (upd (upd (upd (upd (upd F 2 (nI sz)) 5 (nI cs)) 7 (nI hd)) 12 (nI vr)) 13 as9) 5 (nI cs1374)) 13 as1375) 14 wt1376) 15 wf1377) 2 (nI sz)) (updR (updR (updR R 2 (.ref pq)) 3 (.ref mq)) 2 (.ref pq)) Z B1373 J K1372 w := hO.to rfl
  obtain ⟨_, qr1423, hqr1424⟩ := hO.2.1 24 _ (sg_24 G h0 a _ _ _ _ _)
  refine pn_V0 (G := G) (As := [.ref q2, .int (nI t1378), .int (nI 60)]) (rest := []) hx hb hml hown hq hE hX pX0_al hP hD hS hA hl.1 (Y_fit l G h0 a (upd (upd (upd (upd (upd (upd (upd (upd (upd F 2 (nI sz)) 5 (nI cs)) 7 (nI hd)) 12 (nI vr)) 13 as9) 5 (nI cs1374)) 13 as1375) 14 wt1376) 15 wf1377) (updR (updR R 2 (.ref pq)) 3 (.ref mq)) Z B1373 J K1372 w pq dr ml nd q2 sz t1378 60 g pb (by omega) (BdE.pt hbe1406 hwp hps).1 (BdE.pt hbe1406 hwp hps).2.1 hf1405 (by omega) hna.1.1 (NaB.be hbe1406 hbf1413 hwp hps.2.1 hdr0 (hbr1414 11 (by decide)) hna).1.2.2 hO hl0) (gV pw_176 pw_177 pw_178 pw_63 pw_114) hV_X0_fit qr1423 0 hqr1424 rfl rfl rfl (Nat.le_of_ble_eq_true rfl) dX0_sign_192 ⟨(by show 0 + 1 ≤ 1; omega), (by show 0 + 6 ≤ 6; omega)⟩ ⟨(by show 7 + 1 ≤ (5 * n + 33); omega), (by show 8 + (4 + 11) + 122 ≤ (200 * n + 560); omega)⟩ (fun v1422 u1420 H locs hw1421 hP hD hS => ?_) (fun ux ce9 q9 H9 locs9 hux hP9 hD9 hS9 hce hcv hcl => pb_out ux (ThQ.up (Thx.same (Thx.f (Thx.f (Thx.f (Thx.f (Bth.thx hbb1407) (by omega)) (by omega)) (by omega)) (by omega)) rfl) (show RhX (updR (updR R 2 (.ref pq)) 3 (.ref mq)) (updR (updR (updR R 2 (.ref pq)) 3 (.ref mq)) 2 (.ref pq)) from fun k9 hk9 => by unfold updR; simp only [show ¬ k9 = 1 by omega, show ¬ k9 = 2 by omega, show ¬ k9 = 3 by omega, show ¬ k9 = 4 by omega, if_false]) hux) hnt hlocks hce hcv hcl hP9 hD9 hS9 (by show 0 + 1 ≤ 1; omega) (by show 0 + 6 ≤ 6; omega))
  obtain ⟨w, _⟩ := u1420
  obtain ⟨hw1421, h1425, hO⟩ := hw1421
  have h1425 : FtQ pb t1378 60 := h1425
  obtain rfl : v1422 = none := hw1421
  have hO : OKP G h0 a (upd (upd (upd (upd (upd (upd (upd F 2 (nI sz)) 5 (nI cs1374)) 7 (nI hd)) 12 (nI vr)) 13 as1375) 14 wt1376) 15 wf1377) (updR (updR R 2 (.ref pq)) 3 (.ref mq)) Z B1373 J K1372 w := hO.to rfl
  refine W.widen (k := 0) (n := 0) (by show 0 + 0 ≤ 0; omega) (by show 0 + 0 ≤ 0; omega) ?_
  refine W.eq (g2 := F0 m 195 ls []) rfl ?_
  refine lv_iload_n hx hb dX0_sign_195 rfl (lv_at hl 3 rfl) ?_
  refine lv_bipush (v := 54) hx hb dX0_sign_196 (by decide) ?_
  refine lv_icmp_lt (tgt := 211) hx hb dX0_sign_198 (by decide) (fun c1426 => ?_) (fun c1426 => ?_)
  · refine lv_iconst (v := 0) hx hb dX0_sign_211 (by decide) ?_
    refine lv_istore (lv' := [(4, .int 0), (3, .int (nI t13)), (0, .ref (a 4)), (1, .ref q), (2, .int x)]) hx hb dX0_sign_212 hl (by decide) rfl (fun ls hl => ?_)
    refine lv_aload_n hx hb dX0_sign_214 rfl (lv_at hl 2 rfl) ?_
    refine lv_bipush (v := 10) hx hb dX0_sign_215 (by decide) ?_
    refine lv_iload_n hx hb dX0_sign_217 rfl (lv_at hl 4 rfl) ?_
    refine lv_iload hx hb dX0_sign_218 (lv_at hl 0 rfl) ?_
    refine lv_if_eq (tgt := 228) hx hb dX0_sign_220 (by decide) (fun c1427 => ?_) (fun c1427 => absurd c1427 (by decide))
    refine lv_bipush (v := 60) hx hb dX0_sign_228 (by decide) ?_
    have hut1428 := fun z : okA => (hpt50 ⟨z, h1366.1⟩).2
    have hut1429 := fun z : okA => (hpt1415 ⟨⟨z, h1366.1⟩, h1425.1⟩).2
    have hev1430 := fun z : okA => hev1418 ⟨⟨z, h1366.1⟩, h1425.1⟩
    have hfb := h1425
    have hO : OKW G h0 a (upd (upd (upd (upd (upd (upd (upd (upd (upd F 2 (nI sz)) 5 (nI cs1374)) 7 (nI hd)) 12 (nI vr)) 13 as1375) 14 wt1376) 15 wf1377) 5 (nI cs1374)) 7 (nI hd)) (updR (updR R 2 (.ref pq)) 3 (.ref mq)) Z B1373 J K1372.1 (fun q99 x99 => x99 = rep G a K1372 q99) w := hO.to rfl
    obtain ⟨_, qr1434, hqr1435⟩ := hO.2.1 24 _ (sg_24 G h0 a _ _ _ _ _)
    refine pc_V0 (G := G) (As := [.int 10, .int x, .int 60]) (rest := []) hx hb hml hown hq hE hX pX0_al hP hD hS hA hl.1 (Y_give l G h0 a (upd (upd (upd (upd (upd (upd (upd F 2 (nI sz)) 5 (nI cs1374)) 7 (nI hd)) 12 (nI vr)) 13 as1375) 14 wt1376) 15 wf1377) (updR (updR R 2 (.ref pq)) 3 (.ref mq)) Z B1373 J K1372.1 (fun q99 x99 => x99 = rep G a K1372 q99) w 10 x 60 cs1374 hd (by omega) hO) (gV pw_158 pw_159 pw_160 pw_63 pw_128) hV_X0_give qr1434 0 hqr1435 rfl rfl rfl (Nat.le_of_ble_eq_true rfl) dX0_sign_230 ⟨(by show 0 + 0 ≤ 1; omega), (by show 0 + 0 ≤ 6; omega)⟩ ⟨(by show 3 + 1 ≤ (5 * n + 33); omega), (by show 8 + (4 + 11) + 83 ≤ (200 * n + 560); omega)⟩ (fun v1433 u1431 H locs hw1432 hP hD hS => ?_)
    obtain ⟨w, _⟩ := u1431
    obtain ⟨hw1432, hO⟩ := hw1432
    obtain rfl : v1433 = some (.int 60) := hw1432
    have hO : OKP G h0 a (upd (upd (upd (upd (upd (upd (upd F 2 (nI sz)) 5 (nI (cs1374 + 1))) 7 (nI hd)) 12 (nI vr)) 13 as1375) 14 wt1376) 15 wf1377) (updR (updR R 2 (.ref pq)) 3 (.ref mq)) Z (updA (updA (updA (updA B1373 16 (upd ((B1373 16)) cs1374 10)) 17 (upd ((B1373 17)) cs1374 x)) 18 (upd ((B1373 18)) cs1374 0)) 19 (upd ((B1373 19)) cs1374 (nI hd))) J K1372 w := hO.to rfl
    refine W.widen (k := 0) (n := 0) (Nat.le_of_ble_eq_true rfl) (Nat.le_of_ble_eq_true rfl) ?_
    refine W.eq (g2 := F0 m 233 ls [.int 60]) rfl ?_
    have hsw1436 : ∀ x9 : Nat, x9 < cs → (upd ((B1373 16)) cs1374 10) x9 = B 16 x9 := fun x9 hx9 => (if_neg (by omega)).trans (hsw1409 x9 hx9)
    have hsw1437 : ∀ x9 : Nat, x9 < cs → (upd ((B1373 17)) cs1374 x) x9 = B 17 x9 := fun x9 hx9 => (if_neg (by omega)).trans (hsw1410 x9 hx9)
    have hsw1438 : ∀ x9 : Nat, x9 < cs → (upd ((B1373 18)) cs1374 0) x9 = B 18 x9 := fun x9 hx9 => (if_neg (by omega)).trans (hsw1411 x9 hx9)
    have hsw1439 : ∀ x9 : Nat, x9 < cs → (upd ((B1373 19)) cs1374 (nI hd)) x9 = B 19 x9 := fun x9 hx9 => (if_neg (by omega)).trans (hsw1412 x9 hx9)
    obtain ⟨Ag1440, hev1441⟩ : ∃ A5 : Nat → AS, okA → EvQ pb.1 pb.2.1 pb.2.2.1 pb.2.2.2 (B 16) (B 17) (B 18) (B 19) (upd ((B1373 16)) cs1374 10) (upd ((B1373 17)) cs1374 x) (upd ((B1373 18)) cs1374 0) (upd ((B1373 19)) cs1374 (nI hd)) Ag A5 pd m9 sn lo cs (cs1374 + 1) as9 as1375 hd sl (60 :: os) := ⟨(upS Ag1379 (cs1374 + 1) (rcA as1375, hd, sl, (60 :: os))), fun z => (hev1430 z).trans (EmS.sign (hev1430 z).1 (by show os.length + 1 + 1 ≤ 248; omega) (SgT.num hsk (fun e9 => by rcases e9 with e9 | e9 | e9 | e9 | e9 | e9 <;> first | exact h789 e9 | exact h884 e9 | exact h979 e9 | exact h1074 e9 | exact h1169 e9 | exact h1265 e9)))⟩
    have hng9 : Nng (upd ((B1373 18)) cs1374 0) := Nng.set hng1408 (k := 0) (by omega)
    have hng1442 := hng9
    refine W_size (fun hz1 hz2 => ?_)
    refine vx_ret ?_
    have hz1443 : SmW B (updA (updA (updA (updA B1373 16 (upd ((B1373 16)) cs1374 10)) 17 (upd ((B1373 17)) cs1374 x)) 18 (upd ((B1373 18)) cs1374 0)) 19 (upd ((B1373 19)) cs1374 (nI hd))) cs := (fun x9 hx9 => ⟨hsw1436 x9 hx9, hsw1437 x9 hx9, hsw1438 x9 hx9, hsw1439 x9 hx9⟩)
    have hz1444 : BdE K K1372 := hbe1406
    have hz1445 : BeF K K1372 := hbf1413
    have hz1446 : BeL K K1372 none := hbl1416
    have hz1447 : BeI K K1372 g q := hbi1417
    have hz1448 : Bth B (updA (updA (updA (updA B1373 16 (upd ((B1373 16)) cs1374 10)) 17 (upd ((B1373 17)) cs1374 x)) 18 (upd ((B1373 18)) cs1374 0)) 19 (upd ((B1373 19)) cs1374 (nI hd))) := (show Thx (upd (upd (upd (upd (upd F 2 (nI sz)) 5 (nI cs)) 7 (nI hd)) 12 (nI vr)) 13 as9) (upd (upd (upd (upd (upd (upd (upd (upd (upd F 2 (nI sz)) 5 (nI cs)) 7 (nI hd)) 12 (nI vr)) 13 as9) 5 (nI (cs1374 + 1))) 13 as1375) 14 wt1376) 15 wf1377) B (updA (updA (updA (updA B1373 16 (upd ((B1373 16)) cs1374 10)) 17 (upd ((B1373 17)) cs1374 x)) 18 (upd ((B1373 18)) cs1374 0)) 19 (upd ((B1373 19)) cs1374 (nI hd))) from (Thx.b (Thx.b8 (Thx.b (Thx.b (Thx.f (Thx.f (Thx.f (Thx.f (Bth.thx hbb1407) (by omega)) (by omega)) (by omega)) (by omega)) (by omega) (by decide)) (by omega) (by decide)) hng1442) (by omega) (by decide))).2
    have hz1449 : BeR B (updA (updA (updA (updA B1373 16 (upd ((B1373 16)) cs1374 10)) 17 (upd ((B1373 17)) cs1374 x)) 18 (upd ((B1373 18)) cs1374 0)) 19 (upd ((B1373 19)) cs1374 (nI hd))) := (BeR.up (k := 19) (f := (upd ((B1373 19)) cs1374 (nI hd))) (BeR.up (k := 18) (f := (upd ((B1373 18)) cs1374 0)) (BeR.up (k := 17) (f := (upd ((B1373 17)) cs1374 x)) (BeR.up (k := 16) (f := (upd ((B1373 16)) cs1374 10)) hbr1414 (by omega)) (by omega)) (by omega)) (by omega))
    have hz1450 : 60 < 128 := (by omega)
    have hz1451 : cs ≤ (cs1374 + 1) ∧ (cs1374 + 1) + 0 ≤ cs + 2 * tlE g q := (by omega)
    have hz1452 : AsE as9 as1375 := has1419.1
    have hz1453 : okA → PlQ pb B (updA (updA (updA (updA B1373 16 (upd ((B1373 16)) cs1374 10)) 17 (upd ((B1373 17)) cs1374 x)) 18 (upd ((B1373 18)) cs1374 0)) 19 (upd ((B1373 19)) cs1374 (nI hd))) Ag Ag1440 pd m9 sn lo cs (cs1374 + 1) as9 as1375 hd sl os 60 (K.2.1 0 q) := (fun z => Or.inr ⟨by rw [rsO_ne (by omega)]; exact hev1441 z, by omega⟩)
    have hO : OKP G h0 a (upd (upd (upd (upd (upd (upd (upd F 2 (nI sz)) 5 (nI (cs1374 + 1))) 7 (nI hd)) 12 (nI vr)) 13 as1375) 14 wt1376) 15 wf1377) (updR (updR R 2 (.ref pq)) 3 (.ref mq)) Z (updA (updA (updA (updA B1373 16 (upd ((B1373 16)) cs1374 10)) 17 (upd ((B1373 17)) cs1374 x)) 18 (upd ((B1373 18)) cs1374 0)) 19 (upd ((B1373 19)) cs1374 (nI hd))) J K1372 w := hO.to rfl
    refine W.widen (k := 1) (n := 6) (by omega) (by omega) ?_
    have hzz1 : H.size ≤ s.heap.size + (0) := (by have z : 0 ≤ 0 := (by omega); omega)
    have hzz2 : hSl H ≤ hSl s.heap + (0) := (by have z : 0 ≤ 0 := (by omega); omega)
    exact W.iret (v := 60) hx hb hr (fun t99 ht99 hW99 => ⟨⟨_, (w, (K1372, (updA (updA (updA (updA B1373 16 (upd ((B1373 16)) cs1374 10)) 17 (upd ((B1373 17)) cs1374 x)) 18 (upd ((B1373 18)) cs1374 0)) 19 (upd ((B1373 19)) cs1374 (nI hd))), (cs1374 + 1), as1375, wt1376, wf1377, 60, Ag1440)), rfl, ⟨rfl, hz1443, hz1444, hz1445, hz1446, hz1447, hz1448, hz1449, hz1450, hz1451, hz1452, hz1453, hO⟩, by rw [ht99]; exact hP, hD, by rw [ht99]; exact hzz1, by rw [ht99]; exact hzz2⟩, hS.F ht99⟩) hS.2.2 dX0_sign_233
  · refine lv_iload_n hx hb dX0_sign_201 rfl (lv_at hl 3 rfl) ?_
    refine lv_bipush (v := 57) hx hb dX0_sign_202 (by decide) ?_
    refine lv_icmp_gt (tgt := 211) hx hb dX0_sign_204 (by decide) (fun c1454 => ?_) (fun c1454 => ?_)
    · refine lv_iconst (v := 0) hx hb dX0_sign_211 (by decide) ?_
      refine lv_istore (lv' := [(4, .int 0), (3, .int (nI t13)), (0, .ref (a 4)), (1, .ref q), (2, .int x)]) hx hb dX0_sign_212 hl (by decide) rfl (fun ls hl => ?_)
      refine lv_aload_n hx hb dX0_sign_214 rfl (lv_at hl 2 rfl) ?_
      refine lv_bipush (v := 10) hx hb dX0_sign_215 (by decide) ?_
      refine lv_iload_n hx hb dX0_sign_217 rfl (lv_at hl 4 rfl) ?_
      refine lv_iload hx hb dX0_sign_218 (lv_at hl 0 rfl) ?_
      refine lv_if_eq (tgt := 228) hx hb dX0_sign_220 (by decide) (fun c1455 => ?_) (fun c1455 => absurd c1455 (by decide))
      refine lv_bipush (v := 60) hx hb dX0_sign_228 (by decide) ?_
      have hut1456 := fun z : okA => (hpt50 ⟨z, h1366.1⟩).2
      have hut1457 := fun z : okA => (hpt1415 ⟨⟨z, h1366.1⟩, h1425.1⟩).2
      have hev1458 := fun z : okA => hev1418 ⟨⟨z, h1366.1⟩, h1425.1⟩
      have hfb := h1425
      have hO : OKW G h0 a (upd (upd (upd (upd (upd (upd (upd (upd (upd F 2 (nI sz)) 5 (nI cs1374)) 7 (nI hd)) 12 (nI vr)) 13 as1375) 14 wt1376) 15 wf1377) 5 (nI cs1374)) 7 (nI hd)) (updR (updR R 2 (.ref pq)) 3 (.ref mq)) Z B1373 J K1372.1 (fun q99 x99 => x99 = rep G a K1372 q99) w := hO.to rfl
      obtain ⟨_, qr1462, hqr1463⟩ := hO.2.1 24 _ (sg_24 G h0 a _ _ _ _ _)
      refine pc_V0 (G := G) (As := [.int 10, .int x, .int 60]) (rest := []) hx hb hml hown hq hE hX pX0_al hP hD hS hA hl.1 (Y_give l G h0 a (upd (upd (upd (upd (upd (upd (upd F 2 (nI sz)) 5 (nI cs1374)) 7 (nI hd)) 12 (nI vr)) 13 as1375) 14 wt1376) 15 wf1377) (updR (updR R 2 (.ref pq)) 3 (.ref mq)) Z B1373 J K1372.1 (fun q99 x99 => x99 = rep G a K1372 q99) w 10 x 60 cs1374 hd (by omega) hO) (gV pw_158 pw_159 pw_160 pw_63 pw_128) hV_X0_give qr1462 0 hqr1463 rfl rfl rfl (Nat.le_of_ble_eq_true rfl) dX0_sign_230 ⟨(by show 0 + 0 ≤ 1; omega), (by show 0 + 0 ≤ 6; omega)⟩ ⟨(by show 3 + 1 ≤ (5 * n + 33); omega), (by show 8 + (4 + 11) + 83 ≤ (200 * n + 560); omega)⟩ (fun v1461 u1459 H locs hw1460 hP hD hS => ?_)
      obtain ⟨w, _⟩ := u1459
      obtain ⟨hw1460, hO⟩ := hw1460
      obtain rfl : v1461 = some (.int 60) := hw1460
      have hO : OKP G h0 a (upd (upd (upd (upd (upd (upd (upd F 2 (nI sz)) 5 (nI (cs1374 + 1))) 7 (nI hd)) 12 (nI vr)) 13 as1375) 14 wt1376) 15 wf1377) (updR (updR R 2 (.ref pq)) 3 (.ref mq)) Z (updA (updA (updA (updA B1373 16 (upd ((B1373 16)) cs1374 10)) 17 (upd ((B1373 17)) cs1374 x)) 18 (upd ((B1373 18)) cs1374 0)) 19 (upd ((B1373 19)) cs1374 (nI hd))) J K1372 w := hO.to rfl
      refine W.widen (k := 0) (n := 0) (Nat.le_of_ble_eq_true rfl) (Nat.le_of_ble_eq_true rfl) ?_
      refine W.eq (g2 := F0 m 233 ls [.int 60]) rfl ?_
      have hsw1464 : ∀ x9 : Nat, x9 < cs → (upd ((B1373 16)) cs1374 10) x9 = B 16 x9 := fun x9 hx9 => (if_neg (by omega)).trans (hsw1409 x9 hx9)
      have hsw1465 : ∀ x9 : Nat, x9 < cs → (upd ((B1373 17)) cs1374 x) x9 = B 17 x9 := fun x9 hx9 => (if_neg (by omega)).trans (hsw1410 x9 hx9)
      have hsw1466 : ∀ x9 : Nat, x9 < cs → (upd ((B1373 18)) cs1374 0) x9 = B 18 x9 := fun x9 hx9 => (if_neg (by omega)).trans (hsw1411 x9 hx9)
      have hsw1467 : ∀ x9 : Nat, x9 < cs → (upd ((B1373 19)) cs1374 (nI hd)) x9 = B 19 x9 := fun x9 hx9 => (if_neg (by omega)).trans (hsw1412 x9 hx9)
      obtain ⟨Ag1468, hev1469⟩ : ∃ A5 : Nat → AS, okA → EvQ pb.1 pb.2.1 pb.2.2.1 pb.2.2.2 (B 16) (B 17) (B 18) (B 19) (upd ((B1373 16)) cs1374 10) (upd ((B1373 17)) cs1374 x) (upd ((B1373 18)) cs1374 0) (upd ((B1373 19)) cs1374 (nI hd)) Ag A5 pd m9 sn lo cs (cs1374 + 1) as9 as1375 hd sl (60 :: os) := ⟨(upS Ag1379 (cs1374 + 1) (rcA as1375, hd, sl, (60 :: os))), fun z => (hev1458 z).trans (EmS.sign (hev1458 z).1 (by show os.length + 1 + 1 ≤ 248; omega) (SgT.num hsk (fun e9 => by rcases e9 with e9 | e9 | e9 | e9 | e9 | e9 <;> first | exact h789 e9 | exact h884 e9 | exact h979 e9 | exact h1074 e9 | exact h1169 e9 | exact h1265 e9)))⟩
      have hng9 : Nng (upd ((B1373 18)) cs1374 0) := Nng.set hng1408 (k := 0) (by omega)
      have hng1470 := hng9
      refine W_size (fun hz1 hz2 => ?_)
      refine vx_ret ?_
      have hz1471 : SmW B (updA (updA (updA (updA B1373 16 (upd ((B1373 16)) cs1374 10)) 17 (upd ((B1373 17)) cs1374 x)) 18 (upd ((B1373 18)) cs1374 0)) 19 (upd ((B1373 19)) cs1374 (nI hd))) cs := (fun x9 hx9 => ⟨hsw1464 x9 hx9, hsw1465 x9 hx9, hsw1466 x9 hx9, hsw1467 x9 hx9⟩)
      have hz1472 : BdE K K1372 := hbe1406
      have hz1473 : BeF K K1372 := hbf1413
      have hz1474 : BeL K K1372 none := hbl1416
      have hz1475 : BeI K K1372 g q := hbi1417
      have hz1476 : Bth B (updA (updA (updA (updA B1373 16 (upd ((B1373 16)) cs1374 10)) 17 (upd ((B1373 17)) cs1374 x)) 18 (upd ((B1373 18)) cs1374 0)) 19 (upd ((B1373 19)) cs1374 (nI hd))) := (show Thx (upd (upd (upd (upd (upd F 2 (nI sz)) 5 (nI cs)) 7 (nI hd)) 12 (nI vr)) 13 as9) (upd (upd (upd (upd (upd (upd (upd (upd (upd F 2 (nI sz)) 5 (nI cs)) 7 (nI hd)) 12 (nI vr)) 13 as9) 5 (nI (cs1374 + 1))) 13 as1375) 14 wt1376) 15 wf1377) B (updA (updA (updA (updA B1373 16 (upd ((B1373 16)) cs1374 10)) 17 (upd ((B1373 17)) cs1374 x)) 18 (upd ((B1373 18)) cs1374 0)) 19 (upd ((B1373 19)) cs1374 (nI hd))) from (Thx.b (Thx.b8 (Thx.b (Thx.b (Thx.f (Thx.f (Thx.f (Thx.f (Bth.thx hbb1407) (by omega)) (by omega)) (by omega)) (by omega)) (by omega) (by decide)) (by omega) (by decide)) hng1470) (by omega) (by decide))).2
      have hz1477 : BeR B (updA (updA (updA (updA B1373 16 (upd ((B1373 16)) cs1374 10)) 17 (upd ((B1373 17)) cs1374 x)) 18 (upd ((B1373 18)) cs1374 0)) 19 (upd ((B1373 19)) cs1374 (nI hd))) := (BeR.up (k := 19) (f := (upd ((B1373 19)) cs1374 (nI hd))) (BeR.up (k := 18) (f := (upd ((B1373 18)) cs1374 0)) (BeR.up (k := 17) (f := (upd ((B1373 17)) cs1374 x)) (BeR.up (k := 16) (f := (upd ((B1373 16)) cs1374 10)) hbr1414 (by omega)) (by omega)) (by omega)) (by omega))
      have hz1478 : 60 < 128 := (by omega)
      have hz1479 : cs ≤ (cs1374 + 1) ∧ (cs1374 + 1) + 0 ≤ cs + 2 * tlE g q := (by omega)
      have hz1480 : AsE as9 as1375 := has1419.1
      have hz1481 : okA → PlQ pb B (updA (updA (updA (updA B1373 16 (upd ((B1373 16)) cs1374 10)) 17 (upd ((B1373 17)) cs1374 x)) 18 (upd ((B1373 18)) cs1374 0)) 19 (upd ((B1373 19)) cs1374 (nI hd))) Ag Ag1468 pd m9 sn lo cs (cs1374 + 1) as9 as1375 hd sl os 60 (K.2.1 0 q) := (fun z => Or.inr ⟨by rw [rsO_ne (by omega)]; exact hev1469 z, by omega⟩)
      have hO : OKP G h0 a (upd (upd (upd (upd (upd (upd (upd F 2 (nI sz)) 5 (nI (cs1374 + 1))) 7 (nI hd)) 12 (nI vr)) 13 as1375) 14 wt1376) 15 wf1377) (updR (updR R 2 (.ref pq)) 3 (.ref mq)) Z (updA (updA (updA (updA B1373 16 (upd ((B1373 16)) cs1374 10)) 17 (upd ((B1373 17)) cs1374 x)) 18 (upd ((B1373 18)) cs1374 0)) 19 (upd ((B1373 19)) cs1374 (nI hd))) J K1372 w := hO.to rfl
      refine W.widen (k := 1) (n := 6) (by omega) (by omega) ?_
      have hzz1 : H.size ≤ s.heap.size + (0) := (by have z : 0 ≤ 0 := (by omega); omega)
      have hzz2 : hSl H ≤ hSl s.heap + (0) := (by have z : 0 ≤ 0 := (by omega); omega)
      exact W.iret (v := 60) hx hb hr (fun t99 ht99 hW99 => ⟨⟨_, (w, (K1372, (updA (updA (updA (updA B1373 16 (upd ((B1373 16)) cs1374 10)) 17 (upd ((B1373 17)) cs1374 x)) 18 (upd ((B1373 18)) cs1374 0)) 19 (upd ((B1373 19)) cs1374 (nI hd))), (cs1374 + 1), as1375, wt1376, wf1377, 60, Ag1468)), rfl, ⟨rfl, hz1471, hz1472, hz1473, hz1474, hz1475, hz1476, hz1477, hz1478, hz1479, hz1480, hz1481, hO⟩, by rw [ht99]; exact hP, hD, by rw [ht99]; exact hzz1, by rw [ht99]; exact hzz2⟩, hS.F ht99⟩) hS.2.2 dX0_sign_233
    · refine lv_iconst (v := 1) hx hb dX0_sign_207 (by decide) ?_
      refine lv_goto (tgt := 212) hx hb dX0_sign_208 (by decide) ?_
      refine lv_istore (lv' := [(4, .int 1), (3, .int (nI t13)), (0, .ref (a 4)), (1, .ref q), (2, .int x)]) hx hb dX0_sign_212 hl (by decide) rfl (fun ls hl => ?_)
      refine lv_aload_n hx hb dX0_sign_214 rfl (lv_at hl 2 rfl) ?_
      refine lv_bipush (v := 10) hx hb dX0_sign_215 (by decide) ?_
      refine lv_iload_n hx hb dX0_sign_217 rfl (lv_at hl 4 rfl) ?_
      refine lv_iload hx hb dX0_sign_218 (lv_at hl 0 rfl) ?_
      refine lv_if_eq (tgt := 228) hx hb dX0_sign_220 (by decide) (fun c1482 => absurd c1482 (by decide)) (fun c1482 => ?_)
      refine lv_bipush (v := 61) hx hb dX0_sign_223 (by decide) ?_
      refine lv_goto (tgt := 230) hx hb dX0_sign_225 (by decide) ?_
      have hut1483 := fun z : okA => (hpt50 ⟨z, h1366.1⟩).2
      have hut1484 := fun z : okA => (hpt1415 ⟨⟨z, h1366.1⟩, h1425.1⟩).2
      have hev1485 := fun z : okA => hev1418 ⟨⟨z, h1366.1⟩, h1425.1⟩
      have hfb := h1425
      have hO : OKW G h0 a (upd (upd (upd (upd (upd (upd (upd (upd (upd F 2 (nI sz)) 5 (nI cs1374)) 7 (nI hd)) 12 (nI vr)) 13 as1375) 14 wt1376) 15 wf1377) 5 (nI cs1374)) 7 (nI hd)) (updR (updR R 2 (.ref pq)) 3 (.ref mq)) Z B1373 J K1372.1 (fun q99 x99 => x99 = rep G a K1372 q99) w := hO.to rfl
      obtain ⟨_, qr1489, hqr1490⟩ := hO.2.1 24 _ (sg_24 G h0 a _ _ _ _ _)
      refine pc_V0 (G := G) (As := [.int 10, .int x, .int 61]) (rest := []) hx hb hml hown hq hE hX pX0_al hP hD hS hA hl.1 (Y_give l G h0 a (upd (upd (upd (upd (upd (upd (upd F 2 (nI sz)) 5 (nI cs1374)) 7 (nI hd)) 12 (nI vr)) 13 as1375) 14 wt1376) 15 wf1377) (updR (updR R 2 (.ref pq)) 3 (.ref mq)) Z B1373 J K1372.1 (fun q99 x99 => x99 = rep G a K1372 q99) w 10 x 61 cs1374 hd (by omega) hO) (gV pw_158 pw_159 pw_160 pw_63 pw_128) hV_X0_give qr1489 0 hqr1490 rfl rfl rfl (Nat.le_of_ble_eq_true rfl) dX0_sign_230 ⟨(by show 0 + 0 ≤ 1; omega), (by show 0 + 0 ≤ 6; omega)⟩ ⟨(by show 3 + 1 ≤ (5 * n + 33); omega), (by show 8 + (4 + 11) + 83 ≤ (200 * n + 560); omega)⟩ (fun v1488 u1486 H locs hw1487 hP hD hS => ?_)
      obtain ⟨w, _⟩ := u1486
      obtain ⟨hw1487, hO⟩ := hw1487
      obtain rfl : v1488 = some (.int 61) := hw1487
      have hO : OKP G h0 a (upd (upd (upd (upd (upd (upd (upd F 2 (nI sz)) 5 (nI (cs1374 + 1))) 7 (nI hd)) 12 (nI vr)) 13 as1375) 14 wt1376) 15 wf1377) (updR (updR R 2 (.ref pq)) 3 (.ref mq)) Z (updA (updA (updA (updA B1373 16 (upd ((B1373 16)) cs1374 10)) 17 (upd ((B1373 17)) cs1374 x)) 18 (upd ((B1373 18)) cs1374 0)) 19 (upd ((B1373 19)) cs1374 (nI hd))) J K1372 w := hO.to rfl
      refine W.widen (k := 0) (n := 0) (Nat.le_of_ble_eq_true rfl) (Nat.le_of_ble_eq_true rfl) ?_
      refine W.eq (g2 := F0 m 233 ls [.int 61]) rfl ?_
      have hsw1491 : ∀ x9 : Nat, x9 < cs → (upd ((B1373 16)) cs1374 10) x9 = B 16 x9 := fun x9 hx9 => (if_neg (by omega)).trans (hsw1409 x9 hx9)
      have hsw1492 : ∀ x9 : Nat, x9 < cs → (upd ((B1373 17)) cs1374 x) x9 = B 17 x9 := fun x9 hx9 => (if_neg (by omega)).trans (hsw1410 x9 hx9)
      have hsw1493 : ∀ x9 : Nat, x9 < cs → (upd ((B1373 18)) cs1374 0) x9 = B 18 x9 := fun x9 hx9 => (if_neg (by omega)).trans (hsw1411 x9 hx9)
      have hsw1494 : ∀ x9 : Nat, x9 < cs → (upd ((B1373 19)) cs1374 (nI hd)) x9 = B 19 x9 := fun x9 hx9 => (if_neg (by omega)).trans (hsw1412 x9 hx9)
      obtain ⟨Ag1495, hev1496⟩ : ∃ A5 : Nat → AS, okA → EvQ pb.1 pb.2.1 pb.2.2.1 pb.2.2.2 (B 16) (B 17) (B 18) (B 19) (upd ((B1373 16)) cs1374 10) (upd ((B1373 17)) cs1374 x) (upd ((B1373 18)) cs1374 0) (upd ((B1373 19)) cs1374 (nI hd)) Ag A5 pd m9 sn lo cs (cs1374 + 1) as9 as1375 hd sl (61 :: os) := ⟨(upS Ag1379 (cs1374 + 1) (rcA as1375, hd, sl, (61 :: os))), fun z => (hev1485 z).trans (EmS.sign (hev1485 z).1 (by show os.length + 1 + 1 ≤ 248; omega) (SgT.cmp (SnK.mid hsk c1426 c1454)))⟩
      have hng9 : Nng (upd ((B1373 18)) cs1374 0) := Nng.set hng1408 (k := 0) (by omega)
      have hng1497 := hng9
      refine W_size (fun hz1 hz2 => ?_)
      refine vx_ret ?_
      have hz1498 : SmW B (updA (updA (updA (updA B1373 16 (upd ((B1373 16)) cs1374 10)) 17 (upd ((B1373 17)) cs1374 x)) 18 (upd ((B1373 18)) cs1374 0)) 19 (upd ((B1373 19)) cs1374 (nI hd))) cs := (fun x9 hx9 => ⟨hsw1491 x9 hx9, hsw1492 x9 hx9, hsw1493 x9 hx9, hsw1494 x9 hx9⟩)
      have hz1499 : BdE K K1372 := hbe1406
      have hz1500 : BeF K K1372 := hbf1413
      have hz1501 : BeL K K1372 none := hbl1416
      have hz1502 : BeI K K1372 g q := hbi1417
      have hz1503 : Bth B (updA (updA (updA (updA B1373 16 (upd ((B1373 16)) cs1374 10)) 17 (upd ((B1373 17)) cs1374 x)) 18 (upd ((B1373 18)) cs1374 0)) 19 (upd ((B1373 19)) cs1374 (nI hd))) := (show Thx (upd (upd (upd (upd (upd F 2 (nI sz)) 5 (nI cs)) 7 (nI hd)) 12 (nI vr)) 13 as9) (upd (upd (upd (upd (upd (upd (upd (upd (upd F 2 (nI sz)) 5 (nI cs)) 7 (nI hd)) 12 (nI vr)) 13 as9) 5 (nI (cs1374 + 1))) 13 as1375) 14 wt1376) 15 wf1377) B (updA (updA (updA (updA B1373 16 (upd ((B1373 16)) cs1374 10)) 17 (upd ((B1373 17)) cs1374 x)) 18 (upd ((B1373 18)) cs1374 0)) 19 (upd ((B1373 19)) cs1374 (nI hd))) from (Thx.b (Thx.b8 (Thx.b (Thx.b (Thx.f (Thx.f (Thx.f (Thx.f (Bth.thx hbb1407) (by omega)) (by omega)) (by omega)) (by omega)) (by omega) (by decide)) (by omega) (by decide)) hng1497) (by omega) (by decide))).2
      have hz1504 : BeR B (updA (updA (updA (updA B1373 16 (upd ((B1373 16)) cs1374 10)) 17 (upd ((B1373 17)) cs1374 x)) 18 (upd ((B1373 18)) cs1374 0)) 19 (upd ((B1373 19)) cs1374 (nI hd))) := (BeR.up (k := 19) (f := (upd ((B1373 19)) cs1374 (nI hd))) (BeR.up (k := 18) (f := (upd ((B1373 18)) cs1374 0)) (BeR.up (k := 17) (f := (upd ((B1373 17)) cs1374 x)) (BeR.up (k := 16) (f := (upd ((B1373 16)) cs1374 10)) hbr1414 (by omega)) (by omega)) (by omega)) (by omega))
      have hz1505 : 61 < 128 := (by omega)
      have hz1506 : cs ≤ (cs1374 + 1) ∧ (cs1374 + 1) + 0 ≤ cs + 2 * tlE g q := (by omega)
      have hz1507 : AsE as9 as1375 := has1419.1
      have hz1508 : okA → PlQ pb B (updA (updA (updA (updA B1373 16 (upd ((B1373 16)) cs1374 10)) 17 (upd ((B1373 17)) cs1374 x)) 18 (upd ((B1373 18)) cs1374 0)) 19 (upd ((B1373 19)) cs1374 (nI hd))) Ag Ag1495 pd m9 sn lo cs (cs1374 + 1) as9 as1375 hd sl os 61 (K.2.1 0 q) := (fun z => Or.inr ⟨by rw [rsO_ne (by omega)]; exact hev1496 z, by omega⟩)
      have hO : OKP G h0 a (upd (upd (upd (upd (upd (upd (upd F 2 (nI sz)) 5 (nI (cs1374 + 1))) 7 (nI hd)) 12 (nI vr)) 13 as1375) 14 wt1376) 15 wf1377) (updR (updR R 2 (.ref pq)) 3 (.ref mq)) Z (updA (updA (updA (updA B1373 16 (upd ((B1373 16)) cs1374 10)) 17 (upd ((B1373 17)) cs1374 x)) 18 (upd ((B1373 18)) cs1374 0)) 19 (upd ((B1373 19)) cs1374 (nI hd))) J K1372 w := hO.to rfl
      refine W.widen (k := 1) (n := 6) (by omega) (by omega) ?_
      have hzz1 : H.size ≤ s.heap.size + (0) := (by have z : 0 ≤ 0 := (by omega); omega)
      have hzz2 : hSl H ≤ hSl s.heap + (0) := (by have z : 0 ≤ 0 := (by omega); omega)
      exact W.iret (v := 61) hx hb hr (fun t99 ht99 hW99 => ⟨⟨_, (w, (K1372, (updA (updA (updA (updA B1373 16 (upd ((B1373 16)) cs1374 10)) 17 (upd ((B1373 17)) cs1374 x)) 18 (upd ((B1373 18)) cs1374 0)) 19 (upd ((B1373 19)) cs1374 (nI hd))), (cs1374 + 1), as1375, wt1376, wf1377, 61, Ag1495)), rfl, ⟨rfl, hz1498, hz1499, hz1500, hz1501, hz1502, hz1503, hz1504, hz1505, hz1506, hz1507, hz1508, hO⟩, by rw [ht99]; exact hP, hD, by rw [ht99]; exact hzz1, by rw [ht99]; exact hzz2⟩, hS.F ht99⟩) hS.2.2 dX0_sign_233

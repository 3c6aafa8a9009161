theorem VaQ.clt {pb : PNb} {B B1 : Nat → Nat → Int32} {A A1 : Nat → AS} {pd : Nat → Prop} {m sn lo cs cs1 hd t u : Nat} {as0 as wt wf k : Int32} {sl : Nat → Nat} {os : List Nat} (h : VaQ pb B B1 A A1 pd m sn lo cs cs1 as0 as wt wf hd sl os t u k) (hk : CaK k) : cs < cs1 := (Or.resolve_left h (fun z => z.2 hk)).2.2
theorem VaQ.call {pb : PNb} {B B1 : Nat → Nat → Int32} {A A1 : Nat → AS} {pd : Nat → Prop} {m sn lo cs cs1 hd t u : Nat} {as0 as wt wf k : Int32} {sl : Nat → Nat} {os : List Nat} (h : VaQ pb B B1 A A1 pd m sn lo cs cs1 as0 as wt wf hd sl os t u k) (hk : CaK k) (ht : t = 63) : EvB pb B B1 A A1 pd m sn lo cs cs1 as0 as hd sl os := by
  rcases h with ⟨_, h⟩ | ⟨h1, h2, _⟩
  · exact absurd hk h
  · have e : u = 63 := by
      rw [ht] at h2
      rcases h2 with ⟨w1, w2, w3, _⟩ | ⟨w1, _⟩
      · exact ((nI_eq (a := 63) (b := u) (by omega) (by omega)).mp w1).symm
      · exact absurd w1 (by decide)
    rw [e, rsO_63] at h1
    exact h1
set_option maxHeartbeats 24000000 in
set_option maxRecDepth 100000 in
theorem Y_stS (l : Launch) (G : pT) (h0 : Nat) (a : Nat → Nat) (F : Nat → Int32) (R : Nat → Value) (Z : Int64) (B : Nat → Nat → Int32) (J : Nat → Nat → Int64) (K : PK) (w : va_W) (pq : Nat) (dr : Nat) (ml : Nat) (nd : Nat) (nm : Nat) (cp : Nat) (it : Nat → Nat) (s9 : Nat) (q : Nat) (mq : Nat) (cs : Nat) (vr : Nat) (sz : Nat) (n : Nat) (hd : Nat) (dp : Nat) (rg : Nat) (ls9 : Int32) (lp9 : Option Nat) (g : Nat → Nat → Nat) (rk : Nat → Nat) (pb : PNb) (Ag : Nat → AS) (Q9 : RX) (pd : Nat → Prop) (sl : Nat → Nat) (m9 : Nat) (lw : Nat) (c0 : Nat) (rt : Nat) (gr : Nat) (as9 : Int32) (hsz : sz ≤ 5000) (hwp : WPr G K g) (hps : PgT G K g (a 1) pq dr ml nd nm cp it s9) (hrk : RkO K rk) (hcs : cs ≤ 10000) (hvr : vr ≤ 30) (hng : Nng (B 18)) (hmq : K.1 mq = 3) (hqT : K.1 q = 1) (hqL : 1 ≤ g 0 q ∧ g 0 q ≤ n) (hrt : K.2.1 10 mq = nI rt) (hrv : TyV nd rt ∧ (bX pb).2.2.2.2.1 m9 = rt) (hdp : dp ≤ 71) (hrg : rg ≤ 625) (hhd : hd ≤ 41 + vr) (hlo : LpO K lp9) (hek : EkA pb K g (B 7) (B 11) sz) (hcO : OwC K dr mq c0) (hna : NaB pb G K (B 11) dr nd sz) (hen : EnV (B 26) (B 27) nd vr hd c0 sl) (hao : AsO as9) (hem : EmB pb B Ag pd m9 dp lw cs as9 hd sl []) (hrm : cs + 2 * tlE g q ≤ 9999) (hsk : SkA K g (B 11) sz nd) (hk9 : K.2.1 0 q = 22 ∨ K.2.1 0 q = 23 ∨ K.2.1 0 q = 24) (hO : OKP G h0 a (upd (upd (upd (upd (upd (upd (upd (upd F 2 (nI sz)) 5 (nI cs)) 6 (nI rg)) 7 (nI hd)) 8 (nI dp)) 12 (nI vr)) 13 as9) 16 ls9) (updR (updR (updR R 2 (.ref pq)) 3 (.ref mq)) 4 (va_rf lp9)) Z B J K w) (hl0 : l.stackTraces = false) : PBn l G pX0 yX0_statement cX0_statement 3 none ({ frames := (5 * n + 50), cells := 1, slots := 6, locals := (200 * n + 1200) }) [.ref (a 4), .ref q, .int 0] w (fun (v : Option Value) (u : va_W × (PK × (Nat → Nat → Int32) × Nat × Int32 × Int32 × Int32 × Nat × Nat × Nat × (Nat → AS) × (Nat → Nat))) => v = none ∧ (SmW B u.2.2.1 cs) ∧ (BdE K u.2.1) ∧ (BeF K u.2.1) ∧ (BeL K u.2.1 none) ∧ (Bth B u.2.2.1) ∧ (BsR B u.2.2.1) ∧ (cs ≤ u.2.2.2.1 ∧ u.2.2.2.1 + 1 ≤ cs + 2 * tlE g q) ∧ (dp ≤ u.2.2.2.2.2.2.2.2.2.1 ∧ u.2.2.2.2.2.2.2.2.2.1 ≤ 71) ∧ (vr ≤ u.2.2.2.2.2.2.2.1 ∧ u.2.2.2.2.2.2.2.1 ≤ 30 ∧ u.2.2.2.2.2.2.2.2.1 + vr = hd + u.2.2.2.2.2.2.2.1) ∧ (AsO u.2.2.2.2.1) ∧ (VrS B u.2.2.1 vr) ∧ (cs < u.2.2.2.1) ∧ (EnV (u.2.2.1 26) (u.2.2.1 27) nd u.2.2.2.2.2.2.2.1 u.2.2.2.2.2.2.2.2.1 c0 u.2.2.2.2.2.2.2.2.2.2.2) ∧ (StW pb.1 pb.2.1 pb.2.2.1 pb.2.2.2 Ag u.2.2.2.2.2.2.2.2.2.2.1 Q9 Q9 pd pd m9 u.2.2.2.2.2.2.2.2.2.1 lw cs u.2.2.2.1 as9 u.2.2.2.2.1 hd u.2.2.2.2.2.2.2.2.1 sl u.2.2.2.2.2.2.2.2.2.2.2 gr gr (u.2.2.1 16) (u.2.2.1 17) (u.2.2.1 18) (u.2.2.1 19) []) ∧ (OKP G h0 a (upd (upd (upd (upd (upd (upd (upd (upd (upd (upd F 2 (nI sz)) 5 (nI u.2.2.2.1)) 6 (nI rg)) 7 (nI u.2.2.2.2.2.2.2.2.1)) 8 (nI u.2.2.2.2.2.2.2.2.2.1)) 12 (nI u.2.2.2.2.2.2.2.1)) 13 u.2.2.2.2.1) 14 u.2.2.2.2.2.1) 15 u.2.2.2.2.2.2.1) 16 ls9) (updR (updR (updR R 2 (.ref pq)) 3 (.ref mq)) 4 (va_rf lp9)) Z u.2.2.1 J u.2.1 u.1)) (fun u => u.1) (fun (u : va_W × (PK × (Nat → Nat → Int32) × Nat × Int32 × Int32 × Int32 × Nat × Nat × Nat × (Nat → AS) × (Nat → Nat))) => 0) (fun (u : va_W × (PK × (Nat → Nat → Int32) × Nat × Int32 × Int32 × Int32 × Nat × Nat × Nat × (Nat → AS) × (Nat → Nat))) => 0) (fun (u : va_W × (Nat → Int32) × (Nat → Value) × (Nat → Nat → Int32)) => ThQ G h0 a (upd (upd (upd (upd (upd (upd (upd (upd F 2 (nI sz)) 5 (nI cs)) 6 (nI rg)) 7 (nI hd)) 8 (nI dp)) 12 (nI vr)) 13 as9) 16 ls9) (updR (updR (updR R 2 (.ref pq)) 3 (.ref mq)) 4 (va_rf lp9)) Z B J u) (fun u => u.1) := by
  intro sz
  refine vx_ofW (cc := cX0_statement) (maxL := 3) (ret := none) (by decide) rfl ?_
  intro p e s m args below meth c s₁ B9 hml hnt hv
  obtain ⟨rfl, hsz, hP, hD0, hE, hX⟩ := hv
  have hx := B9.exec
  have hb := B9.bytes
  have hr := B9.returns
  have hts := atoms_spec (ws := Cond.code yX0_statement cX0_statement 3 none :: pw) B9.pre
  have hq : ∀ w ∈ pw, w.before _ s = true := fun w h => hts w (List.mem_cons_of_mem _ h)
  have hown : s.vm.findClass RX0 = some m.cls := findClass_of_methodNamed B9.named
  have hlocks := B9.notSynchronized
  subst hsz
  have hD := hD0.self (sz := s.heap.size)
  have hA : ∀ q : Nat, s.heap.size ≤ q → va_A w s.heap.size q := fun q h => Or.inr h
  generalize va_A w s.heap.size = A at hD hE hA ⊢
  have hS : va_S A s.heap s.heap [] := va_S.rf
  have hl := lv_entry ([.ref (a 4), .ref q, .int 0]) (n := 3) (Nat.le_of_ble_eq_true rfl)
  rw [lg_entry_eq]
  generalize (lg_sl ([.ref (a 4), .ref q, .int 0]) ++ List.replicate (3 - (lg_sl ([.ref (a 4), .ref q, .int 0])).length) Slot.unset).toArray = ls at hl ⊢
  have hl : lv_has ls 3 [(0, .ref (a 4)), (1, .ref q), (2, .int 0)] := hl
  have hpg := hps.1
  have hp1 := hpg.1
  have hp2 := hpg.2.1
  have hp3 := hpg.2.2.1
  have hp4 := hpg.2.2.2.1
  have hp5 := hpg.2.2.2.2.1
  have hp6 := hpg.2.2.2.2.2.1
  have hp8 := hpg.2.2.2.2.2.2.2.1
  have hp9 := hpg.2.2.2.2.2.2.2.2
  have hdr0 : ¬ K.1 dr = 0 := by rw [hp4]; decide
  have hrl := hrv.1.lt hna.1.1
  have hst0 : StW pb.1 pb.2.1 pb.2.2.1 pb.2.2.2 Ag Ag Q9 Q9 pd pd m9 dp lw cs cs as9 as9 hd hd sl sl gr gr (B 16) (B 17) (B 18) (B 19) ([] : List Nat) := StW.nil hem
  rcases hk9 with hkd | hkd | hkd
  · skip
    have hnd := hwp.1 q hqT hqL.1
    have hskq := hsk q hqT hqL.1
    have hsk2 := hskq.1 hkd
    have hsk3 := hsk2.1
    refine lv_iload_n hx hb dX0_statement_0 rfl (lv_at hl 2 rfl) ?_
    refine lv_if_eq (tgt := 32) hx hb dX0_statement_1 (by decide) (fun c1 => ?_) (fun c1 => absurd c1 (by decide))
    refine lv_aload_n hx hb dX0_statement_32 rfl (lv_at hl 1 rfl) ?_
    refine p_get (v := .int 22) (C := RX7) (Tc := TX7) (N := 11) (ci := 13) hx hb hq pin_wsX70 hown hE hP hO (by rw [hqT]; decide) (rep_1 hqT) rfl 0 (by decide) (hq _ pw_166) (fun _ h9 => h9) (congrArg (fun z => some (Value.int z)) hkd) dX0_statement_33 ?_
    refine lv_tableIn (tgt := 160) (off := 124) hx hb dX0_statement_36 (by decide) (by decide) (by decide) (by decide) ?_
    refine lv_aload_n hx hb dX0_statement_160 rfl (lv_at hl 0 rfl) ?_
    refine lv_aload_n hx hb dX0_statement_161 rfl (lv_at hl 1 rfl) ?_
    have hO : OKP G h0 a (upd (upd (upd (upd (upd (upd (upd (upd (upd (upd (upd (upd (upd (upd (upd (upd F 2 (nI sz)) 5 (nI cs)) 6 (nI rg)) 7 (nI hd)) 8 (nI dp)) 12 (nI vr)) 13 as9) 16 ls9) 2 (nI sz)) 5 (nI cs)) 6 (nI rg)) 7 (nI hd)) 8 (nI dp)) 12 (nI vr)) 13 as9) 16 ls9) (updR (updR (updR (updR (updR (updR R 2 (.ref pq)) 3 (.ref mq)) 4 (va_rf lp9)) 2 (.ref pq)) 3 (.ref mq)) 4 (va_rf lp9)) Z B J K w := hO.to rfl
    obtain ⟨_, qr5, hqr6⟩ := hO.2.1 24 _ (sg_24 G h0 a _ _ _ _ _)
    refine pn_V0 (G := G) (As := [.ref q]) (rest := []) hx hb hml hown hq hE hX pX0_al hP hD hS hA hl.1 (Y_local l G h0 a (upd (upd (upd (upd (upd (upd (upd (upd F 2 (nI sz)) 5 (nI cs)) 6 (nI rg)) 7 (nI hd)) 8 (nI dp)) 12 (nI vr)) 13 as9) 16 ls9) (updR (updR (updR R 2 (.ref pq)) 3 (.ref mq)) 4 (va_rf lp9)) Z B J K w pq dr ml nd nm cp it s9 q mq cs vr sz n hd dp rg ls9 lp9 g rk pb Ag Q9 pd sl m9 lw c0 rt gr as9 (by omega) (BdE.wp BdE.rfl hwp) (BdE.pt BdE.rfl hwp hps) (BdE.rko BdE.rfl hrk) (by omega) (by omega) hng hmq hqT hqL hrt hrv (by omega) (by omega) (by omega) (LpO.be BdE.rfl hlo) (EkA.be BdE.rfl (BsR.rfl 7 (by decide) (by decide)) (BsR.rfl 11 (by decide) (by decide)) hek) (OwC.be BdE.rfl hmq hdr0 hcO) (NaB.be BdE.rfl BeF.rfl hwp hps.2.1 hdr0 (BsR.rfl 11 (by decide) (by decide)) hna) hen hao hst0.1 (by omega) (fun x9 hx9 => by have z9 := (hwp.1 q hqT hqL.1).2.1 0 x9 (by decide) hx9; have z8 := hsk2.2 x9 hx9; exact ⟨z9.1, ⟨z9.2.1, by have z7 := z9.2.2.1; omega⟩, z8.1.1, z8.1.2, z8.2⟩) hsk3 hO hl0) (gV pw_342 pw_343 pw_344 pw_63 pw_288) hV_X0_local qr5 0 hqr6 rfl rfl rfl (Nat.le_of_ble_eq_true rfl) dX0_statement_162 ⟨(by show 0 + 1 ≤ 1; omega), (by show 0 + 6 ≤ 6; omega)⟩ ⟨(by show (5 * n + 33) + 1 ≤ (5 * n + 50); omega), (by show 8 + (5 + 11) + (200 * n + 560) ≤ (200 * n + 1200); omega)⟩ (fun v4 u2 H locs hw3 hP hD hS => ?_) (fun ux ce9 q9 H9 locs9 hux hP9 hD9 hS9 hce hcv hcl => pb_out ux (ThQ.up (Thx.same (Thx.same (Thx.same (Thx.same (Thx.same (Thx.same (Thx.same (Thx.same Thx.rfl rfl) rfl) rfl) rfl) rfl) rfl) rfl) rfl) (show RhX (updR (updR (updR R 2 (.ref pq)) 3 (.ref mq)) 4 (va_rf lp9)) (updR (updR (updR (updR (updR (updR R 2 (.ref pq)) 3 (.ref mq)) 4 (va_rf lp9)) 2 (.ref pq)) 3 (.ref mq)) 4 (va_rf lp9)) from fun k9 hk9 => by unfold updR; simp only [show ¬ k9 = 1 by omega, show ¬ k9 = 2 by omega, show ¬ k9 = 3 by omega, show ¬ k9 = 4 by omega, if_false]) hux) hnt hlocks hce hcv hcl hP9 hD9 hS9 (by show 0 + 1 ≤ 1; omega) (by show 0 + 6 ≤ 6; omega))
    obtain ⟨w, K7, B8, cs9, as10, wt11, wf12, vr13, hd14, dp15, Ag16, sl17⟩ := u2
    obtain ⟨hw3, h18, h19, h20, h21, h22, h23, h24, h25, h26, h27, h28, h29, h30, h31, hO⟩ := hw3
    have h18 : SmW B B8 cs := h18
    have h19 : BdE K K7 := h19
    have h20 : BeF K K7 := h20
    have h21 : BeL K K7 none := h21
    have h22 : Bth B B8 := h22
    have h23 : BsR B B8 := h23
    have h24 : cs ≤ cs9 ∧ cs9 + 1 ≤ cs + 2 * tlE g q := h24
    have h25 : dp ≤ dp15 ∧ dp15 ≤ 71 := h25
    have h26 : vr ≤ vr13 ∧ vr13 ≤ 30 ∧ hd14 + vr = hd + vr13 := h26
    have h27 : AsO as10 := h27
    have h28 : VrS B B8 vr := h28
    have h29 : cs < cs9 := h29
    have h30 : EnV (B8 26) (B8 27) nd vr13 hd14 c0 sl17 := h30
    have h31 : StW pb.1 pb.2.1 pb.2.2.1 pb.2.2.2 Ag Ag16 Q9 Q9 pd pd m9 dp15 lw cs cs9 as9 as10 hd hd14 sl sl17 gr gr (B8 16) (B8 17) (B8 18) (B8 19) [] := h31
    obtain rfl : v4 = none := hw3
    have hf32 : K7.1 pq = 7 := (BdE.T h19 hp1 (by decide))
    have hf33 : K7.2.2.1 18 pq = some (a 1) := (BdE.C h19 (by rw [hp1]; decide) 18).trans hp2
    have hf34 : K7.2.2.1 14 pq = some dr := (BdE.C h19 (by rw [hp1]; decide) 14).trans hp3
    have hf35 : K7.1 dr = 8 := (BdE.T h19 hp4 (by decide))
    have hf36 : K7.2.2.1 15 pq = some ml := (BdE.C h19 (by rw [hp1]; decide) 15).trans hp5
    have hf37 : K7.1 ml = 5 := (BdE.T h19 hp6 (by decide))
    have hf38 : K7.2.1 24 pq = (nI nd) := (BdE.I h19 (by rw [hp1]; decide) (by decide) (by decide)).trans hp8
    have hf39 : K7.1 q = 1 := (BdE.T h19 hqT (by decide))
    have hf40 : K7.1 mq = 3 := (BdE.T h19 hmq (by decide))
    have hf41 : K7.2.1 10 mq = (nI rt) := (BdE.I h19 (by rw [hmq]; decide) (by decide) (by decide)).trans hrt
    have hf42 : K7.2.1 0 q = 22 := (BdE.I h19 (by rw [hqT]; decide) (by decide) (by decide)).trans hkd
    have hO : OKP G h0 a (upd (upd (upd (upd (upd (upd (upd (upd (upd (upd F 2 (nI sz)) 5 (nI cs9)) 6 (nI rg)) 7 (nI hd14)) 8 (nI dp15)) 12 (nI vr13)) 13 as10) 14 wt11) 15 wf12) 16 ls9) (updR (updR (updR R 2 (.ref pq)) 3 (.ref mq)) 4 (va_rf lp9)) Z B8 J K7 w := hO.to rfl
    refine W.widen (k := 0) (n := 0) (by show 0 + 0 ≤ 0; omega) (by show 0 + 0 ≤ 0; omega) ?_
    refine W.eq (g2 := F0 m 165 ls []) rfl ?_
    have hbe43 := BdE.trans BdE.rfl h19
    have hbb44 : Bth B B8 := Bth.trans (show Thx (upd (upd (upd (upd (upd (upd (upd (upd F 2 (nI sz)) 5 (nI cs)) 6 (nI rg)) 7 (nI hd)) 8 (nI dp)) 12 (nI vr)) 13 as9) 16 ls9) (upd (upd (upd (upd (upd (upd (upd (upd F 2 (nI sz)) 5 (nI cs)) 6 (nI rg)) 7 (nI hd)) 8 (nI dp)) 12 (nI vr)) 13 as9) 16 ls9) B B from Thx.rfl).2 h22
    have hng45 : Nng (B8 18) := h22.2 hng
    have hsw46 : ∀ x9 : Nat, x9 < cs → (B8 16) x9 = B 16 x9 := fun x9 hx9 => ((h18 x9 (by omega)).1).trans ((fun _ _ => rfl) x9 hx9)
    have hsw47 : ∀ x9 : Nat, x9 < cs → (B8 17) x9 = B 17 x9 := fun x9 hx9 => ((h18 x9 (by omega)).2.1).trans ((fun _ _ => rfl) x9 hx9)
    have hsw48 : ∀ x9 : Nat, x9 < cs → (B8 18) x9 = B 18 x9 := fun x9 hx9 => ((h18 x9 (by omega)).2.2.1).trans ((fun _ _ => rfl) x9 hx9)
    have hsw49 : ∀ x9 : Nat, x9 < cs → (B8 19) x9 = B 19 x9 := fun x9 hx9 => ((h18 x9 (by omega)).2.2.2).trans ((fun _ _ => rfl) x9 hx9)
    have hbf50 := BeF.trans BeF.rfl h20 BdE.rfl
    have hbl52 := BeL.trans BeL.rfl h21 BdE.rfl
    have hbr51 : BsR B B8 := BsR.trans BsR.rfl h23
    have hvs53 : VrS B B8 vr := VrS.trans VrS.rfl h28 (by omega)
    have hst54 : StW pb.1 pb.2.1 pb.2.2.1 pb.2.2.2 Ag Ag16 Q9 Q9 pd pd m9 dp15 lw cs cs9 as9 as10 hd hd14 sl sl17 gr gr (B8 16) (B8 17) (B8 18) (B8 19) ([] : List Nat) := StW.seq hst0 (by omega) (fun x9 hx9 => ⟨(h18 x9 hx9).1, (h18 x9 hx9).2.1⟩) h31
    refine lv_goto (tgt := 241) hx hb dX0_statement_165 (by decide) ?_
    refine W_size (fun hz1 hz2 => ?_)
    refine vx_ret ?_
    have hz55 : SmW B B8 cs := (fun x9 hx9 => ⟨hsw46 x9 hx9, hsw47 x9 hx9, hsw48 x9 hx9, hsw49 x9 hx9⟩)
    have hz56 : BdE K K7 := hbe43
    have hz57 : BeF K K7 := hbf50
    have hz58 : BeL K K7 none := hbl52
    have hz59 : Bth B B8 := (show Thx (upd (upd (upd (upd (upd (upd (upd (upd F 2 (nI sz)) 5 (nI cs)) 6 (nI rg)) 7 (nI hd)) 8 (nI dp)) 12 (nI vr)) 13 as9) 16 ls9) (upd (upd (upd (upd (upd (upd (upd (upd (upd (upd (upd (upd (upd (upd (upd F 2 (nI sz)) 5 (nI cs)) 6 (nI rg)) 7 (nI hd)) 8 (nI dp)) 12 (nI vr)) 13 as9) 16 ls9) 5 (nI cs9)) 7 (nI hd14)) 8 (nI dp15)) 12 (nI vr13)) 13 as10) 14 wt11) 15 wf12) B B8 from (Thx.f (Thx.f (Thx.f (Thx.f (Thx.f (Thx.f (Thx.f (Bth.thx hbb44) (by omega)) (by omega)) (by omega)) (by omega)) (by omega)) (by omega)) (by omega))).2
    have hz60 : BsR B B8 := hbr51
    have hz61 : cs ≤ cs9 ∧ cs9 + 1 ≤ cs + 2 * tlE g q := (by omega)
    have hz62 : dp ≤ dp15 ∧ dp15 ≤ 71 := (by omega)
    have hz63 : vr ≤ vr13 ∧ vr13 ≤ 30 ∧ hd14 + vr = hd + vr13 := (by omega)
    have hz64 : AsO as10 := h27
    have hz65 : VrS B B8 vr := hvs53
    have hz66 : cs < cs9 := (by omega)
    have hz67 : EnV (B8 26) (B8 27) nd vr13 hd14 c0 sl17 := h30
    have hz68 : StW pb.1 pb.2.1 pb.2.2.1 pb.2.2.2 Ag Ag16 Q9 Q9 pd pd m9 dp15 lw cs cs9 as9 as10 hd hd14 sl sl17 gr gr (B8 16) (B8 17) (B8 18) (B8 19) [] := hst54
    have hO : OKP G h0 a (upd (upd (upd (upd (upd (upd (upd (upd (upd (upd F 2 (nI sz)) 5 (nI cs9)) 6 (nI rg)) 7 (nI hd14)) 8 (nI dp15)) 12 (nI vr13)) 13 as10) 14 wt11) 15 wf12) 16 ls9) (updR (updR (updR R 2 (.ref pq)) 3 (.ref mq)) 4 (va_rf lp9)) Z B8 J K7 w := hO.to rfl
    refine W.widen (k := 1) (n := 6) (by omega) (by omega) ?_
    have hzz1 : H.size ≤ s.heap.size + (0) := (by have z : 0 ≤ 0 := (by omega); omega)
    have hzz2 : hSl H ≤ hSl s.heap + (0) := (by have z : 0 ≤ 0 := (by omega); omega)
    exact W.vret hx hb hr (fun t99 ht99 hW99 => ⟨⟨_, (w, (K7, B8, cs9, as10, wt11, wf12, vr13, hd14, dp15, Ag16, sl17)), rfl, ⟨rfl, hz55, hz56, hz57, hz58, hz59, hz60, hz61, hz62, hz63, hz64, hz65, hz66, hz67, hz68, hO⟩, by rw [ht99]; exact hP, hD, by rw [ht99]; exact hzz1, by rw [ht99]; exact hzz2⟩, hS.F ht99⟩) hS.2.2 dX0_statement_241
  · skip
    have hnd := hwp.1 q hqT hqL.1
    have hskq := hsk q hqT hqL.1
    obtain ⟨q1, hc0, ht0, hw0⟩ := NdO.ch hnd (f := 0) (by decide) ((hnd.1.2.1 (by rw [hkd]; decide)).1)
    have hv0 : 1 ≤ g 0 q1 ∧ g 0 q1 + 1 ≤ n := ⟨hw0.1, (by have z := hw0.2; omega)⟩
    obtain ⟨q2, hc1, ht1, hw1⟩ := NdO.ch hnd (f := 1) (by decide) ((hnd.1.2.1 (by rw [hkd]; decide)).2)
    have hv1 : 1 ≤ g 0 q2 ∧ g 0 q2 + 1 ≤ n := ⟨hw1.1, (by have z := hw1.2; omega)⟩
    obtain ⟨hes1, hes2, htl9, hnin⟩ := hskq.2.1 hkd q1 q2 hc0 hc1
    have hes3 := hes1.2
    have hes4 := hes2.2
    have hes5 := hes1.1.1
    have hes6 := hes1.1.2
    have hes7 := hes2.1.1
    refine lv_iload_n hx hb dX0_statement_0 rfl (lv_at hl 2 rfl) ?_
    refine lv_if_eq (tgt := 32) hx hb dX0_statement_1 (by decide) (fun c69 => ?_) (fun c69 => absurd c69 (by decide))
    refine lv_aload_n hx hb dX0_statement_32 rfl (lv_at hl 1 rfl) ?_
    refine p_get (v := .int 23) (C := RX7) (Tc := TX7) (N := 11) (ci := 13) hx hb hq pin_wsX70 hown hE hP hO (by rw [hqT]; decide) (rep_1 hqT) rfl 0 (by decide) (hq _ pw_166) (fun _ h9 => h9) (congrArg (fun z => some (Value.int z)) hkd) dX0_statement_33 ?_
    refine lv_tableIn (tgt := 168) (off := 132) hx hb dX0_statement_36 (by decide) (by decide) (by decide) (by decide) ?_
    refine lv_aload_n hx hb dX0_statement_168 rfl (lv_at hl 0 rfl) ?_
    refine lv_aload_n hx hb dX0_statement_169 rfl (lv_at hl 1 rfl) ?_
    refine p_get (v := .ref q1) (C := RX7) (Tc := TX7) (N := 11) (ci := 13) hx hb hq pin_wsX70 hown hE hP hO (by rw [hqT]; decide) (rep_1 hqT) rfl 6 (by decide) (hq _ pw_180) (fun _ h9 => h9) (congrArg (fun z => some (va_rf z)) hc0) dX0_statement_170 ?_
    refine lv_aload_n hx hb dX0_statement_173 rfl (lv_at hl 1 rfl) ?_
    refine p_get (v := .ref q2) (C := RX7) (Tc := TX7) (N := 11) (ci := 13) hx hb hq pin_wsX70 hown hE hP hO (by rw [hqT]; decide) (rep_1 hqT) rfl 7 (by decide) (hq _ pw_169) (fun _ h9 => h9) (congrArg (fun z => some (va_rf z)) hc1) dX0_statement_174 ?_
    have hO : OKP G h0 a (upd (upd (upd (upd (upd (upd (upd (upd (upd (upd (upd (upd (upd (upd (upd (upd F 2 (nI sz)) 5 (nI cs)) 6 (nI rg)) 7 (nI hd)) 8 (nI dp)) 12 (nI vr)) 13 as9) 16 ls9) 2 (nI sz)) 5 (nI cs)) 6 (nI rg)) 7 (nI hd)) 8 (nI dp)) 12 (nI vr)) 13 as9) 16 ls9) (updR (updR (updR (updR (updR (updR R 2 (.ref pq)) 3 (.ref mq)) 4 (va_rf lp9)) 2 (.ref pq)) 3 (.ref mq)) 4 (va_rf lp9)) Z B J K w := hO.to rfl
    obtain ⟨_, qr73, hqr74⟩ := hO.2.1 24 _ (sg_24 G h0 a _ _ _ _ _)
    refine pn_V0 (G := G) (As := [.ref q1, .ref q2]) (rest := []) hx hb hml hown hq hE hX pX0_al hP hD hS hA hl.1 (Y_assign l G h0 a (upd (upd (upd (upd (upd (upd (upd (upd F 2 (nI sz)) 5 (nI cs)) 6 (nI rg)) 7 (nI hd)) 8 (nI dp)) 12 (nI vr)) 13 as9) 16 ls9) (updR (updR (updR R 2 (.ref pq)) 3 (.ref mq)) 4 (va_rf lp9)) Z B J K w pq dr ml nd nm cp it s9 q1 mq cs vr sz n q2 hd dp rg ls9 lp9 g rk pb Ag Q9 pd sl m9 lw c0 rt gr as9 (by omega) (BdE.wp BdE.rfl hwp) (BdE.pt BdE.rfl hwp hps) (BdE.rko BdE.rfl hrk) (by omega) (by omega) hng hmq ht0 ⟨hv0.1, (by have z9 := hv0; omega)⟩ hrt hrv (by omega) (by omega) (by omega) (LpO.be BdE.rfl hlo) (EkA.be BdE.rfl (BsR.rfl 7 (by decide) (by decide)) (BsR.rfl 11 (by decide) (by decide)) hek) (OwC.be BdE.rfl hmq hdr0 hcO) (NaB.be BdE.rfl BeF.rfl hwp hps.2.1 hdr0 (BsR.rfl 11 (by decide) (by decide)) hna) hen hao hst0.1 (by omega) ht1 hv1 hes2.1 hes2.2 (by rw [BdE.I BdE.rfl (by rw [ht0]; decide) (by decide) (by decide)]; exact NdO.k23 hnd hkd hc0) hes1.1 hes1.2 hnin hO hl0) (gV pw_345 pw_346 pw_347 pw_63 pw_293) hV_X0_assign qr73 0 hqr74 rfl rfl rfl (Nat.le_of_ble_eq_true rfl) dX0_statement_177 ⟨(by show 0 + 1 ≤ 1; omega), (by show 0 + 6 ≤ 6; omega)⟩ ⟨(by show (5 * n + 36) + 1 ≤ (5 * n + 50); omega), (by show 8 + (5 + 11) + (200 * n + 660) ≤ (200 * n + 1200); omega)⟩ (fun v72 u70 H locs hw71 hP hD hS => ?_) (fun ux ce9 q9 H9 locs9 hux hP9 hD9 hS9 hce hcv hcl => pb_out ux (ThQ.up (Thx.same (Thx.same (Thx.same (Thx.same (Thx.same (Thx.same (Thx.same (Thx.same Thx.rfl rfl) rfl) rfl) rfl) rfl) rfl) rfl) rfl) (show RhX (updR (updR (updR R 2 (.ref pq)) 3 (.ref mq)) 4 (va_rf lp9)) (updR (updR (updR (updR (updR (updR R 2 (.ref pq)) 3 (.ref mq)) 4 (va_rf lp9)) 2 (.ref pq)) 3 (.ref mq)) 4 (va_rf lp9)) from fun k9 hk9 => by unfold updR; simp only [show ¬ k9 = 1 by omega, show ¬ k9 = 2 by omega, show ¬ k9 = 3 by omega, show ¬ k9 = 4 by omega, if_false]) hux) hnt hlocks hce hcv hcl hP9 hD9 hS9 (by show 0 + 1 ≤ 1; omega) (by show 0 + 6 ≤ 6; omega))
    obtain ⟨w, K75, B76, cs77, as78, wt79, wf80, vr81, hd82, dp83, Ag84, sl85⟩ := u70
    obtain ⟨hw71, h86, h87, h88, h89, h90, h91, h92, h93, h94, h95, h96, h97, h98, h99, h100, hO⟩ := hw71
    have h86 : SmW B B76 cs := h86
    have h87 : BdE K K75 := h87
    have h88 : BeF K K75 := h88
    have h89 : BeL K K75 none := h89
    have h90 : Bth B B76 := h90
    have h91 : BsR B B76 := h91
    have h92 : cs ≤ cs77 ∧ cs77 + 1 ≤ cs + 2 * (tlE g q1 + tlE g q2 + 1) := h92
    have h93 : dp ≤ dp83 ∧ dp83 ≤ 71 := h93
    have h94 : vr ≤ vr81 ∧ vr81 ≤ 30 ∧ hd82 + vr = hd + vr81 := h94
    have h95 : AsO as78 := h95
    have h96 : VrS B B76 vr := h96
    have h97 : cs < cs77 := h97
    have h98 : EnV (B76 26) (B76 27) nd vr81 hd82 c0 sl85 := h98
    have h99 : StW pb.1 pb.2.1 pb.2.2.1 pb.2.2.2 Ag Ag84 Q9 Q9 pd pd m9 dp83 lw cs cs77 as9 as78 hd hd82 sl sl85 gr gr (B76 16) (B76 17) (B76 18) (B76 19) [] := h99
    have h100 : hd82 = hd := h100
    obtain rfl : v72 = none := hw71
    have hf101 : K75.1 pq = 7 := (BdE.T h87 hp1 (by decide))
    have hf102 : K75.2.2.1 18 pq = some (a 1) := (BdE.C h87 (by rw [hp1]; decide) 18).trans hp2
    have hf103 : K75.2.2.1 14 pq = some dr := (BdE.C h87 (by rw [hp1]; decide) 14).trans hp3
    have hf104 : K75.1 dr = 8 := (BdE.T h87 hp4 (by decide))
    have hf105 : K75.2.2.1 15 pq = some ml := (BdE.C h87 (by rw [hp1]; decide) 15).trans hp5
    have hf106 : K75.1 ml = 5 := (BdE.T h87 hp6 (by decide))
    have hf107 : K75.2.1 24 pq = (nI nd) := (BdE.I h87 (by rw [hp1]; decide) (by decide) (by decide)).trans hp8
    have hf108 : K75.1 q = 1 := (BdE.T h87 hqT (by decide))
    have hf109 : K75.1 mq = 3 := (BdE.T h87 hmq (by decide))
    have hf110 : K75.2.1 10 mq = (nI rt) := (BdE.I h87 (by rw [hmq]; decide) (by decide) (by decide)).trans hrt
    have hf111 : K75.2.1 0 q = 23 := (BdE.I h87 (by rw [hqT]; decide) (by decide) (by decide)).trans hkd
    have hf112 : K75.2.2.1 0 q = some q1 := (BdE.C h87 (by rw [hqT]; decide) 0).trans hc0
    have hf113 : K75.1 q1 = 1 := (BdE.T h87 ht0 (by decide))
    have hf114 : K75.2.2.1 1 q = some q2 := (BdE.C h87 (by rw [hqT]; decide) 1).trans hc1
    have hf115 : K75.1 q2 = 1 := (BdE.T h87 ht1 (by decide))
    have hO : OKP G h0 a (upd (upd (upd (upd (upd (upd (upd (upd (upd (upd F 2 (nI sz)) 5 (nI cs77)) 6 (nI rg)) 7 (nI hd82)) 8 (nI dp83)) 12 (nI vr81)) 13 as78) 14 wt79) 15 wf80) 16 ls9) (updR (updR (updR R 2 (.ref pq)) 3 (.ref mq)) 4 (va_rf lp9)) Z B76 J K75 w := hO.to rfl
    refine W.widen (k := 0) (n := 0) (by show 0 + 0 ≤ 0; omega) (by show 0 + 0 ≤ 0; omega) ?_
    refine W.eq (g2 := F0 m 180 ls []) rfl ?_
    have hbe116 := BdE.trans BdE.rfl h87
    have hbb117 : Bth B B76 := Bth.trans (show Thx (upd (upd (upd (upd (upd (upd (upd (upd F 2 (nI sz)) 5 (nI cs)) 6 (nI rg)) 7 (nI hd)) 8 (nI dp)) 12 (nI vr)) 13 as9) 16 ls9) (upd (upd (upd (upd (upd (upd (upd (upd F 2 (nI sz)) 5 (nI cs)) 6 (nI rg)) 7 (nI hd)) 8 (nI dp)) 12 (nI vr)) 13 as9) 16 ls9) B B from Thx.rfl).2 h90
    have hng118 : Nng (B76 18) := h90.2 hng
    have hsw119 : ∀ x9 : Nat, x9 < cs → (B76 16) x9 = B 16 x9 := fun x9 hx9 => ((h86 x9 (by omega)).1).trans ((fun _ _ => rfl) x9 hx9)
    have hsw120 : ∀ x9 : Nat, x9 < cs → (B76 17) x9 = B 17 x9 := fun x9 hx9 => ((h86 x9 (by omega)).2.1).trans ((fun _ _ => rfl) x9 hx9)
    have hsw121 : ∀ x9 : Nat, x9 < cs → (B76 18) x9 = B 18 x9 := fun x9 hx9 => ((h86 x9 (by omega)).2.2.1).trans ((fun _ _ => rfl) x9 hx9)
    have hsw122 : ∀ x9 : Nat, x9 < cs → (B76 19) x9 = B 19 x9 := fun x9 hx9 => ((h86 x9 (by omega)).2.2.2).trans ((fun _ _ => rfl) x9 hx9)
    have hbf123 := BeF.trans BeF.rfl h88 BdE.rfl
    have hbl125 := BeL.trans BeL.rfl h89 BdE.rfl
    have hbr124 : BsR B B76 := BsR.trans BsR.rfl h91
    have hvs126 : VrS B B76 vr := VrS.trans VrS.rfl h96 (by omega)
    have hst127 : StW pb.1 pb.2.1 pb.2.2.1 pb.2.2.2 Ag Ag84 Q9 Q9 pd pd m9 dp83 lw cs cs77 as9 as78 hd hd82 sl sl85 gr gr (B76 16) (B76 17) (B76 18) (B76 19) ([] : List Nat) := StW.seq hst0 (by omega) (fun x9 hx9 => ⟨(h86 x9 hx9).1, (h86 x9 hx9).2.1⟩) h99
    refine lv_goto (tgt := 241) hx hb dX0_statement_180 (by decide) ?_
    refine W_size (fun hz1 hz2 => ?_)
    refine vx_ret ?_
    have hz128 : SmW B B76 cs := (fun x9 hx9 => ⟨hsw119 x9 hx9, hsw120 x9 hx9, hsw121 x9 hx9, hsw122 x9 hx9⟩)
    have hz129 : BdE K K75 := hbe116
    have hz130 : BeF K K75 := hbf123
    have hz131 : BeL K K75 none := hbl125
    have hz132 : Bth B B76 := (show Thx (upd (upd (upd (upd (upd (upd (upd (upd F 2 (nI sz)) 5 (nI cs)) 6 (nI rg)) 7 (nI hd)) 8 (nI dp)) 12 (nI vr)) 13 as9) 16 ls9) (upd (upd (upd (upd (upd (upd (upd (upd (upd (upd (upd (upd (upd (upd (upd F 2 (nI sz)) 5 (nI cs)) 6 (nI rg)) 7 (nI hd)) 8 (nI dp)) 12 (nI vr)) 13 as9) 16 ls9) 5 (nI cs77)) 7 (nI hd82)) 8 (nI dp83)) 12 (nI vr81)) 13 as78) 14 wt79) 15 wf80) B B76 from (Thx.f (Thx.f (Thx.f (Thx.f (Thx.f (Thx.f (Thx.f (Bth.thx hbb117) (by omega)) (by omega)) (by omega)) (by omega)) (by omega)) (by omega)) (by omega))).2
    have hz133 : BsR B B76 := hbr124
    have hz134 : cs ≤ cs77 ∧ cs77 + 1 ≤ cs + 2 * tlE g q := (by omega)
    have hz135 : dp ≤ dp83 ∧ dp83 ≤ 71 := (by omega)
    have hz136 : vr ≤ vr81 ∧ vr81 ≤ 30 ∧ hd82 + vr = hd + vr81 := (by omega)
    have hz137 : AsO as78 := h95
    have hz138 : VrS B B76 vr := hvs126
    have hz139 : cs < cs77 := (by omega)
    have hz140 : EnV (B76 26) (B76 27) nd vr81 hd82 c0 sl85 := h98
    have hz141 : StW pb.1 pb.2.1 pb.2.2.1 pb.2.2.2 Ag Ag84 Q9 Q9 pd pd m9 dp83 lw cs cs77 as9 as78 hd hd82 sl sl85 gr gr (B76 16) (B76 17) (B76 18) (B76 19) [] := hst127
    have hO : OKP G h0 a (upd (upd (upd (upd (upd (upd (upd (upd (upd (upd F 2 (nI sz)) 5 (nI cs77)) 6 (nI rg)) 7 (nI hd82)) 8 (nI dp83)) 12 (nI vr81)) 13 as78) 14 wt79) 15 wf80) 16 ls9) (updR (updR (updR R 2 (.ref pq)) 3 (.ref mq)) 4 (va_rf lp9)) Z B76 J K75 w := hO.to rfl
    refine W.widen (k := 1) (n := 6) (by omega) (by omega) ?_
    have hzz1 : H.size ≤ s.heap.size + (0) := (by have z : 0 ≤ 0 := (by omega); omega)
    have hzz2 : hSl H ≤ hSl s.heap + (0) := (by have z : 0 ≤ 0 := (by omega); omega)
    exact W.vret hx hb hr (fun t99 ht99 hW99 => ⟨⟨_, (w, (K75, B76, cs77, as78, wt79, wf80, vr81, hd82, dp83, Ag84, sl85)), rfl, ⟨rfl, hz128, hz129, hz130, hz131, hz132, hz133, hz134, hz135, hz136, hz137, hz138, hz139, hz140, hz141, hO⟩, by rw [ht99]; exact hP, hD, by rw [ht99]; exact hzz1, by rw [ht99]; exact hzz2⟩, hS.F ht99⟩) hS.2.2 dX0_statement_241
  · skip
    have hnd := hwp.1 q hqT hqL.1
    have hskq := hsk q hqT hqL.1
    obtain ⟨q1, hc0, ht0, hw0⟩ := NdO.ch hnd (f := 0) (by decide) (hnd.1.1 (by rw [hkd]; decide))
    have hv0 : 1 ≤ g 0 q1 ∧ g 0 q1 + 1 ≤ n := ⟨hw0.1, (by have z := hw0.2; omega)⟩
    obtain ⟨hes1, htl9, heT, heC⟩ := hskq.2.2.1 hkd q1 hc0
    have hes3 := hes1.2
    have hes4 := hes1.1.1
    have hes5 := hes1.1.2
    refine lv_iload_n hx hb dX0_statement_0 rfl (lv_at hl 2 rfl) ?_
    refine lv_if_eq (tgt := 32) hx hb dX0_statement_1 (by decide) (fun c142 => ?_) (fun c142 => absurd c142 (by decide))
    refine lv_aload_n hx hb dX0_statement_32 rfl (lv_at hl 1 rfl) ?_
    refine p_get (v := .int 24) (C := RX7) (Tc := TX7) (N := 11) (ci := 13) hx hb hq pin_wsX70 hown hE hP hO (by rw [hqT]; decide) (rep_1 hqT) rfl 0 (by decide) (hq _ pw_166) (fun _ h9 => h9) (congrArg (fun z => some (Value.int z)) hkd) dX0_statement_33 ?_
    refine lv_tableIn (tgt := 215) (off := 179) hx hb dX0_statement_36 (by decide) (by decide) (by decide) (by decide) ?_
    refine lv_aload_n hx hb dX0_statement_215 rfl (lv_at hl 0 rfl) ?_
    refine lv_aload_n hx hb dX0_statement_216 rfl (lv_at hl 1 rfl) ?_
    refine p_get (v := .ref q1) (C := RX7) (Tc := TX7) (N := 11) (ci := 13) hx hb hq pin_wsX70 hown hE hP hO (by rw [hqT]; decide) (rep_1 hqT) rfl 6 (by decide) (hq _ pw_180) (fun _ h9 => h9) (congrArg (fun z => some (va_rf z)) hc0) dX0_statement_217 ?_
    have hO : OKP G h0 a (upd (upd (upd (upd (upd (upd (upd (upd (upd (upd (upd (upd (upd F 2 (nI sz)) 5 (nI cs)) 6 (nI rg)) 7 (nI hd)) 8 (nI dp)) 12 (nI vr)) 13 as9) 16 ls9) 2 (nI sz)) 5 (nI cs)) 7 (nI hd)) 12 (nI vr)) 13 as9) (updR (updR (updR (updR (updR R 2 (.ref pq)) 3 (.ref mq)) 4 (va_rf lp9)) 2 (.ref pq)) 3 (.ref mq)) Z B J K w := hO.to rfl
    obtain ⟨_, qr146, hqr147⟩ := hO.2.1 24 _ (sg_24 G h0 a _ _ _ _ _)
    refine pn_V0 (G := G) (As := [.ref q1]) (rest := []) hx hb hml hown hq hE hX pX0_al hP hD hS hA hl.1 ((PY_all l G (n - 1)) h0 a (upd (upd (upd (upd (upd (upd (upd (upd F 2 (nI sz)) 5 (nI cs)) 6 (nI rg)) 7 (nI hd)) 8 (nI dp)) 12 (nI vr)) 13 as9) 16 ls9) (updR (updR (updR R 2 (.ref pq)) 3 (.ref mq)) 4 (va_rf lp9)) Z B J K w pq dr ml nd nm cp it s9 q1 mq cs vr sz g rk pb Ag pd sl ([] : List Nat) m9 dp lw hd c0 as9 True (by omega) (BdE.wp BdE.rfl hwp) (BdE.pt BdE.rfl hwp hps) (BdE.rko BdE.rfl hrk) (by omega) (by omega) hng hmq ht0 ⟨hv0.1, (by have z9 := hv0; omega)⟩ (EkA.be BdE.rfl (BsR.rfl 7 (by decide) (by decide)) (BsR.rfl 11 (by decide) (by decide)) hek) (OwC.be BdE.rfl hmq hdr0 hcO) (NaB.be BdE.rfl BeF.rfl hwp hps.2.1 hdr0 (BsR.rfl 11 (by decide) (by decide)) hna) hen (fun _ => hst0.1) (by omega) (by show 0 + ndE g q1 ≤ 248; omega) hes1.1 hO hl0) (gV pw_173 pw_174 pw_175 pw_63 pw_224) hV_X0_value qr146 0 hqr147 rfl rfl rfl (Nat.le_of_ble_eq_true rfl) dX0_statement_220 ⟨(by show 0 + 1 ≤ 1; omega), (by show 0 + 6 ≤ 6; omega)⟩ ⟨(by show (5 * (n - 1) + 34) + 1 ≤ (5 * n + 50); omega), (by show 8 + (3 + 11) + (200 * (n - 1) + 600) ≤ (200 * n + 1200); omega)⟩ (fun v145 u143 H locs hw144 hP hD hS => ?_) (fun ux ce9 q9 H9 locs9 hux hP9 hD9 hS9 hce hcv hcl => pb_out ux (ThQ.up (Thx.same (Thx.same (Thx.same (Thx.same (Thx.same Thx.rfl rfl) rfl) rfl) rfl) rfl) (show RhX (updR (updR (updR R 2 (.ref pq)) 3 (.ref mq)) 4 (va_rf lp9)) (updR (updR (updR (updR (updR R 2 (.ref pq)) 3 (.ref mq)) 4 (va_rf lp9)) 2 (.ref pq)) 3 (.ref mq)) from fun k9 hk9 => by unfold updR; simp only [show ¬ k9 = 1 by omega, show ¬ k9 = 2 by omega, show ¬ k9 = 3 by omega, show ¬ k9 = 4 by omega, if_false]) hux) hnt hlocks hce hcv hcl hP9 hD9 hS9 (by show 0 + 1 ≤ 1; omega) (by show 0 + 6 ≤ 6; omega))
    obtain ⟨w, K148, B149, cs150, as151, wt152, wf153, t154, Ag155, u156⟩ := u143
    obtain ⟨hw144, h157, h158, h159, h160, h161, h162, h163, h164, h165, h166, h167, h168, hO⟩ := hw144
    have h157 : SmW B B149 cs := h157
    have h158 : BdE K K148 := h158
    have h159 : BeF K K148 := h159
    have h160 : BeL K K148 none := h160
    have h161 : BeI K K148 g q1 := h161
    have h162 : Bth B B149 := h162
    have h163 : BeR B B149 := h163
    have h164 : t154 < 128 := h164
    have h165 : cs ≤ cs150 ∧ cs150 + 0 ≤ cs + 2 * tlE g q1 := h165
    have h166 : AsE as9 as151 ∧ AsE as9 wt152 ∧ AsE as9 wf153 := h166
    have h167 : True → VaQ pb B B149 Ag Ag155 pd m9 dp lw cs cs150 as9 as151 wt152 wf153 hd sl ([] : List Nat) t154 u156 (K.2.1 0 q1) := h167
    have h168 : CaK (K.2.1 0 q1) → cs150 + 2 ≤ cs + 2 * tlE g q1 := h168
    obtain rfl : v145 = some (.int (nI t154)) := hw144
    have hf169 : K148.1 pq = 7 := (BdE.T h158 hp1 (by decide))
    have hf170 : K148.2.2.1 18 pq = some (a 1) := (BdE.C h158 (by rw [hp1]; decide) 18).trans hp2
    have hf171 : K148.2.2.1 14 pq = some dr := (BdE.C h158 (by rw [hp1]; decide) 14).trans hp3
    have hf172 : K148.1 dr = 8 := (BdE.T h158 hp4 (by decide))
    have hf173 : K148.2.2.1 15 pq = some ml := (BdE.C h158 (by rw [hp1]; decide) 15).trans hp5
    have hf174 : K148.1 ml = 5 := (BdE.T h158 hp6 (by decide))
    have hf175 : K148.2.1 24 pq = (nI nd) := (BdE.I h158 (by rw [hp1]; decide) (by decide) (by decide)).trans hp8
    have hf176 : K148.1 q = 1 := (BdE.T h158 hqT (by decide))
    have hf177 : K148.1 mq = 3 := (BdE.T h158 hmq (by decide))
    have hf178 : K148.2.1 10 mq = (nI rt) := (BdE.I h158 (by rw [hmq]; decide) (by decide) (by decide)).trans hrt
    have hf179 : K148.2.1 0 q = 24 := (BdE.I h158 (by rw [hqT]; decide) (by decide) (by decide)).trans hkd
    have hf180 : K148.2.2.1 0 q = some q1 := (BdE.C h158 (by rw [hqT]; decide) 0).trans hc0
    have hf181 : K148.1 q1 = 1 := (BdE.T h158 ht0 (by decide))
    have hO : OKP G h0 a (upd (upd (upd (upd (upd (upd (upd (upd (upd (upd F 2 (nI sz)) 5 (nI cs150)) 6 (nI rg)) 7 (nI hd)) 8 (nI dp)) 12 (nI vr)) 13 as151) 14 wt152) 15 wf153) 16 ls9) (updR (updR (updR R 2 (.ref pq)) 3 (.ref mq)) 4 (va_rf lp9)) Z B149 J K148 w := hO.to rfl
    refine W.widen (k := 0) (n := 0) (by show 0 + 0 ≤ 0; omega) (by show 0 + 0 ≤ 0; omega) ?_
    refine W.eq (g2 := F0 m 223 ls [.int (nI t154)]) rfl ?_
    have hbe182 := BdE.trans BdE.rfl h158
    have hbb183 : Bth B B149 := Bth.trans (show Thx (upd (upd (upd (upd (upd (upd (upd (upd F 2 (nI sz)) 5 (nI cs)) 6 (nI rg)) 7 (nI hd)) 8 (nI dp)) 12 (nI vr)) 13 as9) 16 ls9) (upd (upd (upd (upd (upd (upd (upd (upd F 2 (nI sz)) 5 (nI cs)) 6 (nI rg)) 7 (nI hd)) 8 (nI dp)) 12 (nI vr)) 13 as9) 16 ls9) B B from Thx.rfl).2 h162
    have hng184 : Nng (B149 18) := h162.2 hng
    have hsw185 : ∀ x9 : Nat, x9 < cs → (B149 16) x9 = B 16 x9 := fun x9 hx9 => ((h157 x9 (by omega)).1).trans ((fun _ _ => rfl) x9 hx9)
    have hsw186 : ∀ x9 : Nat, x9 < cs → (B149 17) x9 = B 17 x9 := fun x9 hx9 => ((h157 x9 (by omega)).2.1).trans ((fun _ _ => rfl) x9 hx9)
    have hsw187 : ∀ x9 : Nat, x9 < cs → (B149 18) x9 = B 18 x9 := fun x9 hx9 => ((h157 x9 (by omega)).2.2.1).trans ((fun _ _ => rfl) x9 hx9)
    have hsw188 : ∀ x9 : Nat, x9 < cs → (B149 19) x9 = B 19 x9 := fun x9 hx9 => ((h157 x9 (by omega)).2.2.2).trans ((fun _ _ => rfl) x9 hx9)
    have hbf189 := BeF.trans BeF.rfl h159 BdE.rfl
    have hbl191 := BeL.trans BeL.rfl h160 BdE.rfl
    have hbr190 : BsR B B149 := BsR.trans BsR.rfl (BeR.bs h163)
    have hen192 : EnV (B149 26) (B149 27) nd vr hd c0 sl := EnV.of (h163 26 (by decide)) (h163 27 (by decide)) hen
    have hvs193 : VrS B B149 vr := fun i9 hi9 => ⟨(congrFun (h163 26 (by decide)) i9).trans (VrS.rfl i9 hi9).1, (congrFun (h163 27 (by decide)) i9).trans (VrS.rfl i9 hi9).2⟩
    have hao194 : AsO as151 ∧ AsO wt152 ∧ AsO wf153 := ⟨AsE.aso h166.1 hao, AsE.aso h166.2.1 hao, AsE.aso h166.2.2 hao⟩
    have hqc195 := h168 (by rw [BdE.I BdE.rfl (by rw [ht0]; decide) (by decide) (by decide)]; exact heC)
    refine lv_bipush (v := 63) hx hb dX0_statement_223 (by decide) ?_
    refine lv_icmp_eq (tgt := 241) hx hb dX0_statement_225 (by decide) (fun c196 => ?_) (fun c196 => ?_)
    · have n197 : t154 = 63 := (nI_eq (a := t154) (b := 63) (by omega) (by omega)).mp c196
      have hst198 : StW pb.1 pb.2.1 pb.2.2.1 pb.2.2.2 Ag Ag155 Q9 Q9 pd pd m9 dp lw cs cs150 as9 as151 hd hd sl sl gr gr (B149 16) (B149 17) (B149 18) (B149 19) ([] : List Nat) := StW.ev hst0 (VaQ.call (h167 trivial) (by rw [BdE.I BdE.rfl (by rw [ht0]; decide) (by decide) (by decide)]; exact heC) (by omega))
      have hlt9 := VaQ.clt (h167 trivial) (by rw [BdE.I BdE.rfl (by rw [ht0]; decide) (by decide) (by decide)]; exact heC)
      refine W_size (fun hz1 hz2 => ?_)
      refine vx_ret ?_
      have hz200 : SmW B B149 cs := (fun x9 hx9 => ⟨hsw185 x9 hx9, hsw186 x9 hx9, hsw187 x9 hx9, hsw188 x9 hx9⟩)
      have hz201 : BdE K K148 := hbe182
      have hz202 : BeF K K148 := hbf189
      have hz203 : BeL K K148 none := hbl191
      have hz204 : Bth B B149 := (show Thx (upd (upd (upd (upd (upd (upd (upd (upd F 2 (nI sz)) 5 (nI cs)) 6 (nI rg)) 7 (nI hd)) 8 (nI dp)) 12 (nI vr)) 13 as9) 16 ls9) (upd (upd (upd (upd (upd (upd (upd (upd (upd (upd (upd (upd F 2 (nI sz)) 5 (nI cs)) 6 (nI rg)) 7 (nI hd)) 8 (nI dp)) 12 (nI vr)) 13 as9) 16 ls9) 5 (nI cs150)) 13 as151) 14 wt152) 15 wf153) B B149 from (Thx.f (Thx.f (Thx.f (Thx.f (Bth.thx hbb183) (by omega)) (by omega)) (by omega)) (by omega))).2
      have hz205 : BsR B B149 := hbr190
      have hz206 : cs ≤ cs150 ∧ cs150 + 1 ≤ cs + 2 * tlE g q := (by omega)
      have hz207 : dp ≤ dp ∧ dp ≤ 71 := (by omega)
      have hz208 : vr ≤ vr ∧ vr ≤ 30 ∧ hd + vr = hd + vr := (by omega)
      have hz209 : AsO as151 := hao194.1
      have hz210 : VrS B B149 vr := hvs193
      have hz211 : cs < cs150 := (by omega)
      have hz212 : EnV (B149 26) (B149 27) nd vr hd c0 sl := hen192
      have hz213 : StW pb.1 pb.2.1 pb.2.2.1 pb.2.2.2 Ag Ag155 Q9 Q9 pd pd m9 dp lw cs cs150 as9 as151 hd hd sl sl gr gr (B149 16) (B149 17) (B149 18) (B149 19) [] := hst198
      have hO : OKP G h0 a (upd (upd (upd (upd (upd (upd (upd (upd (upd (upd F 2 (nI sz)) 5 (nI cs150)) 6 (nI rg)) 7 (nI hd)) 8 (nI dp)) 12 (nI vr)) 13 as151) 14 wt152) 15 wf153) 16 ls9) (updR (updR (updR R 2 (.ref pq)) 3 (.ref mq)) 4 (va_rf lp9)) Z B149 J K148 w := hO.to rfl
      refine W.widen (k := 1) (n := 6) (by omega) (by omega) ?_
      have hzz1 : H.size ≤ s.heap.size + (0) := (by have z : 0 ≤ 0 := (by omega); omega)
      have hzz2 : hSl H ≤ hSl s.heap + (0) := (by have z : 0 ≤ 0 := (by omega); omega)
      exact W.vret hx hb hr (fun t99 ht99 hW99 => ⟨⟨_, (w, (K148, B149, cs150, as151, wt152, wf153, vr, hd, dp, Ag155, sl)), rfl, ⟨rfl, hz200, hz201, hz202, hz203, hz204, hz205, hz206, hz207, hz208, hz209, hz210, hz211, hz212, hz213, hO⟩, by rw [ht99]; exact hP, hD, by rw [ht99]; exact hzz1, by rw [ht99]; exact hzz2⟩, hS.F ht99⟩) hS.2.2 dX0_statement_241
    · have n214 : ¬ (t154 = 63) := fun h9 => c196 ((nI_eq (a := t154) (b := 63) (by omega) (by omega)).mpr h9)
      have hst215 : StW pb.1 pb.2.1 pb.2.2.1 pb.2.2.2 Ag Ag155 Q9 Q9 pd pd m9 dp lw cs cs150 as9 as151 hd hd sl sl gr gr (B149 16) (B149 17) (B149 18) (B149 19) (u156 :: ([] : List Nat)) := StW.ev hst0 (VaQ.ev (h167 trivial) h164 (by omega))
      have hut216 : UTb u156 (nI t154) as151 wt152 wf153 := VaQ.ut (h167 trivial) (by omega)
      refine lv_aload_n hx hb dX0_statement_228 rfl (lv_at hl 0 rfl) ?_
      refine c_get (v := .ref (a 2)) (C := RX0) (Tc := TX0) (N := 13) (ci := 0) hx hb hq pin_wsX00 hown hE hP hO 24 (sg_24 G h0 a _ _ _ _ _) rfl 1 (by decide) (hq _ pw_5) (fun _ h9 => h9) rfl dX0_statement_229 ?_
      refine lv_iconst (v := 5) hx hb dX0_statement_232 (by decide) ?_
      refine lv_iconst (v := 0) hx hb dX0_statement_233 (by decide) ?_
      refine lv_iconst (v := 0) hx hb dX0_statement_234 (by decide) ?_
      have hO : OKW G h0 a (upd (upd (upd (upd (upd (upd (upd (upd (upd (upd (upd (upd F 2 (nI sz)) 5 (nI cs150)) 6 (nI rg)) 7 (nI hd)) 8 (nI dp)) 12 (nI vr)) 13 as151) 14 wt152) 15 wf153) 16 ls9) 5 (nI cs150)) 7 (nI hd)) (updR (updR (updR R 2 (.ref pq)) 3 (.ref mq)) 4 (va_rf lp9)) Z B149 J K148.1 (fun q99 x99 => x99 = rep G a K148 q99) w := hO.to rfl
      obtain ⟨_, qr220, hqr221⟩ := hO.2.1 13 _ (sg_13 G h0 a _ _ _ _ _)
      refine pc_V0 (G := G) (As := [.int 5, .int 0, .int 0]) (rest := []) hx hb hml hown hq hE hX pX0_al hP hD hS hA hl.1 (Y_emit l G h0 a (upd (upd (upd (upd (upd (upd (upd (upd (upd (upd F 2 (nI sz)) 5 (nI cs150)) 6 (nI rg)) 7 (nI hd)) 8 (nI dp)) 12 (nI vr)) 13 as151) 14 wt152) 15 wf153) 16 ls9) (updR (updR (updR R 2 (.ref pq)) 3 (.ref mq)) 4 (va_rf lp9)) Z B149 J K148.1 (fun q99 x99 => x99 = rep G a K148 q99) w 5 0 0 cs150 hd (by omega) hO) (gV pw_129 pw_130 pw_131 pw_70 pw_115) hV_X1_emit qr220 1 hqr221 rfl rfl rfl (Nat.le_of_ble_eq_true rfl) dX0_statement_235 ⟨(by show 0 + 0 ≤ 1; omega), (by show 0 + 0 ≤ 6; omega)⟩ ⟨(by show 2 + 1 ≤ (5 * n + 50); omega), (by show 8 + (4 + 11) + 60 ≤ (200 * n + 1200); omega)⟩ (fun v219 u217 H locs hw218 hP hD hS => ?_)
      obtain ⟨w, _⟩ := u217
      obtain ⟨hw218, hO⟩ := hw218
      obtain rfl : v219 = none := hw218
      have hO : OKP G h0 a (upd (upd (upd (upd (upd (upd (upd (upd (upd (upd F 2 (nI sz)) 5 (nI (cs150 + 1))) 6 (nI rg)) 7 (nI hd)) 8 (nI dp)) 12 (nI vr)) 13 as151) 14 wt152) 15 wf153) 16 ls9) (updR (updR (updR R 2 (.ref pq)) 3 (.ref mq)) 4 (va_rf lp9)) Z (updA (updA (updA (updA B149 16 (upd ((B149 16)) cs150 5)) 17 (upd ((B149 17)) cs150 0)) 18 (upd ((B149 18)) cs150 0)) 19 (upd ((B149 19)) cs150 (nI hd))) J K148 w := hO.to rfl
      refine W.widen (k := 0) (n := 0) (Nat.le_of_ble_eq_true rfl) (Nat.le_of_ble_eq_true rfl) ?_
      refine W.eq (g2 := F0 m 238 ls []) rfl ?_
      have hsw222 : ∀ x9 : Nat, x9 < cs → (upd ((B149 16)) cs150 5) x9 = B 16 x9 := fun x9 hx9 => (if_neg (by omega)).trans (hsw185 x9 hx9)
      have hsw223 : ∀ x9 : Nat, x9 < cs → (upd ((B149 17)) cs150 0) x9 = B 17 x9 := fun x9 hx9 => (if_neg (by omega)).trans (hsw186 x9 hx9)
      have hsw224 : ∀ x9 : Nat, x9 < cs → (upd ((B149 18)) cs150 0) x9 = B 18 x9 := fun x9 hx9 => (if_neg (by omega)).trans (hsw187 x9 hx9)
      have hsw225 : ∀ x9 : Nat, x9 < cs → (upd ((B149 19)) cs150 (nI hd)) x9 = B 19 x9 := fun x9 hx9 => (if_neg (by omega)).trans (hsw188 x9 hx9)
      obtain ⟨Ag226, hst227⟩ : ∃ A5 : Nat → AS, StW pb.1 pb.2.1 pb.2.2.1 pb.2.2.2 Ag A5 Q9 Q9 pd pd m9 dp lw cs (cs150 + 1) as9 as151 hd hd sl sl gr gr (upd ((B149 16)) cs150 5) (upd ((B149 17)) cs150 0) (upd ((B149 18)) cs150 0) (upd ((B149 19)) cs150 (nI hd)) ([] : List Nat) := ⟨(upS Ag155 (cs150 + 1) (rcA as151, hd, sl, ([] : List Nat))), StW.pop1 hst215⟩
      have hng228 : Nng (upd ((B149 18)) cs150 0) := Nng.set hng184 (k := 0) (by omega)
      refine lv_goto (tgt := 241) hx hb dX0_statement_238 (by decide) ?_
      refine W_size (fun hz1 hz2 => ?_)
      refine vx_ret ?_
      have hz229 : SmW B (updA (updA (updA (updA B149 16 (upd ((B149 16)) cs150 5)) 17 (upd ((B149 17)) cs150 0)) 18 (upd ((B149 18)) cs150 0)) 19 (upd ((B149 19)) cs150 (nI hd))) cs := (fun x9 hx9 => ⟨hsw222 x9 hx9, hsw223 x9 hx9, hsw224 x9 hx9, hsw225 x9 hx9⟩)
      have hz230 : BdE K K148 := hbe182
      have hz231 : BeF K K148 := hbf189
      have hz232 : BeL K K148 none := hbl191
      have hz233 : Bth B (updA (updA (updA (updA B149 16 (upd ((B149 16)) cs150 5)) 17 (upd ((B149 17)) cs150 0)) 18 (upd ((B149 18)) cs150 0)) 19 (upd ((B149 19)) cs150 (nI hd))) := (show Thx (upd (upd (upd (upd (upd (upd (upd (upd F 2 (nI sz)) 5 (nI cs)) 6 (nI rg)) 7 (nI hd)) 8 (nI dp)) 12 (nI vr)) 13 as9) 16 ls9) (upd (upd (upd (upd (upd (upd (upd (upd (upd (upd (upd (upd F 2 (nI sz)) 5 (nI cs)) 6 (nI rg)) 7 (nI hd)) 8 (nI dp)) 12 (nI vr)) 13 as9) 16 ls9) 5 (nI (cs150 + 1))) 13 as151) 14 wt152) 15 wf153) B (updA (updA (updA (updA B149 16 (upd ((B149 16)) cs150 5)) 17 (upd ((B149 17)) cs150 0)) 18 (upd ((B149 18)) cs150 0)) 19 (upd ((B149 19)) cs150 (nI hd))) from (Thx.b (Thx.b8 (Thx.b (Thx.b (Thx.f (Thx.f (Thx.f (Thx.f (Bth.thx hbb183) (by omega)) (by omega)) (by omega)) (by omega)) (by omega) (by decide)) (by omega) (by decide)) hng228) (by omega) (by decide))).2
      have hz234 : BsR B (updA (updA (updA (updA B149 16 (upd ((B149 16)) cs150 5)) 17 (upd ((B149 17)) cs150 0)) 18 (upd ((B149 18)) cs150 0)) 19 (upd ((B149 19)) cs150 (nI hd))) := (BsR.up (BsR.up (BsR.up (BsR.up hbr190 (by omega)) (by omega)) (by omega)) (by omega))
      have hz235 : cs ≤ (cs150 + 1) ∧ (cs150 + 1) + 1 ≤ cs + 2 * tlE g q := (by omega)
      have hz236 : dp ≤ dp ∧ dp ≤ 71 := (by omega)
      have hz237 : vr ≤ vr ∧ vr ≤ 30 ∧ hd + vr = hd + vr := (by omega)
      have hz238 : AsO as151 := hao194.1
      have hz239 : VrS B (updA (updA (updA (updA B149 16 (upd ((B149 16)) cs150 5)) 17 (upd ((B149 17)) cs150 0)) 18 (upd ((B149 18)) cs150 0)) 19 (upd ((B149 19)) cs150 (nI hd))) vr := hvs193
      have hz240 : cs < (cs150 + 1) := (by omega)
      have hz241 : EnV ((updA (updA (updA (updA B149 16 (upd ((B149 16)) cs150 5)) 17 (upd ((B149 17)) cs150 0)) 18 (upd ((B149 18)) cs150 0)) 19 (upd ((B149 19)) cs150 (nI hd))) 26) ((updA (updA (updA (updA B149 16 (upd ((B149 16)) cs150 5)) 17 (upd ((B149 17)) cs150 0)) 18 (upd ((B149 18)) cs150 0)) 19 (upd ((B149 19)) cs150 (nI hd))) 27) nd vr hd c0 sl := hen192
      have hz242 : StW pb.1 pb.2.1 pb.2.2.1 pb.2.2.2 Ag Ag226 Q9 Q9 pd pd m9 dp lw cs (cs150 + 1) as9 as151 hd hd sl sl gr gr ((updA (updA (updA (updA B149 16 (upd ((B149 16)) cs150 5)) 17 (upd ((B149 17)) cs150 0)) 18 (upd ((B149 18)) cs150 0)) 19 (upd ((B149 19)) cs150 (nI hd))) 16) ((updA (updA (updA (updA B149 16 (upd ((B149 16)) cs150 5)) 17 (upd ((B149 17)) cs150 0)) 18 (upd ((B149 18)) cs150 0)) 19 (upd ((B149 19)) cs150 (nI hd))) 17) ((updA (updA (updA (updA B149 16 (upd ((B149 16)) cs150 5)) 17 (upd ((B149 17)) cs150 0)) 18 (upd ((B149 18)) cs150 0)) 19 (upd ((B149 19)) cs150 (nI hd))) 18) ((updA (updA (updA (updA B149 16 (upd ((B149 16)) cs150 5)) 17 (upd ((B149 17)) cs150 0)) 18 (upd ((B149 18)) cs150 0)) 19 (upd ((B149 19)) cs150 (nI hd))) 19) [] := hst227
      have hO : OKP G h0 a (upd (upd (upd (upd (upd (upd (upd (upd (upd (upd F 2 (nI sz)) 5 (nI (cs150 + 1))) 6 (nI rg)) 7 (nI hd)) 8 (nI dp)) 12 (nI vr)) 13 as151) 14 wt152) 15 wf153) 16 ls9) (updR (updR (updR R 2 (.ref pq)) 3 (.ref mq)) 4 (va_rf lp9)) Z (updA (updA (updA (updA B149 16 (upd ((B149 16)) cs150 5)) 17 (upd ((B149 17)) cs150 0)) 18 (upd ((B149 18)) cs150 0)) 19 (upd ((B149 19)) cs150 (nI hd))) J K148 w := hO.to rfl
      refine W.widen (k := 1) (n := 6) (by omega) (by omega) ?_
      have hzz1 : H.size ≤ s.heap.size + (0) := (by have z : 0 ≤ 0 := (by omega); omega)
      have hzz2 : hSl H ≤ hSl s.heap + (0) := (by have z : 0 ≤ 0 := (by omega); omega)
      exact W.vret hx hb hr (fun t99 ht99 hW99 => ⟨⟨_, (w, (K148, (updA (updA (updA (updA B149 16 (upd ((B149 16)) cs150 5)) 17 (upd ((B149 17)) cs150 0)) 18 (upd ((B149 18)) cs150 0)) 19 (upd ((B149 19)) cs150 (nI hd))), (cs150 + 1), as151, wt152, wf153, vr, hd, dp, Ag226, sl)), rfl, ⟨rfl, hz229, hz230, hz231, hz232, hz233, hz234, hz235, hz236, hz237, hz238, hz239, hz240, hz241, hz242, hO⟩, by rw [ht99]; exact hP, hD, by rw [ht99]; exact hzz1, by rw [ht99]; exact hzz2⟩, hS.F ht99⟩) hS.2.2 dX0_statement_241

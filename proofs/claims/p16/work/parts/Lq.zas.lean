set_option maxHeartbeats 24000000 in
set_option maxRecDepth 100000 in
theorem Y_assign (l : Launch) (G : pT) (h0 : Nat) (a : Nat → Nat) (F : Nat → Int32) (R : Nat → Value) (Z : Int64) (B : Nat → Nat → Int32) (J : Nat → Nat → Int64) (K : PK) (w : va_W) (pq : Nat) (dr : Nat) (ml : Nat) (nd : Nat) (nm : Nat) (cp : Nat) (it : Nat → Nat) (s9 : Nat) (q : Nat) (mq : Nat) (cs : Nat) (vr : Nat) (sz : Nat) (n : Nat) (q2 : Nat) (hd : Nat) (dp : Nat) (rg : Nat) (ls9 : Int32) (lp9 : Option Nat) (g : Nat → Nat → Nat) (rk : Nat → Nat) (pb : PNb) (Ag : Nat → AS) (Q9 : RX) (pd : Nat → Prop) (sl : Nat → Nat) (m9 : Nat) (lw : Nat) (c0 : Nat) (rt : Nat) (gr : Nat) (as9 : Int32) (hsz : sz ≤ 5000) (hwp : WPr G K g) (hps : PgT G K g (a 1) pq dr ml nd nm cp it s9) (hrk : RkO K rk) (hcs : cs ≤ 10000) (hvr : vr ≤ 30) (hng : Nng (B 18)) (hmq : K.1 mq = 3) (hqT : K.1 q = 1) (hqL : 1 ≤ g 0 q ∧ g 0 q ≤ n) (hrt : K.2.1 10 mq = nI rt) (hrv : TyV nd rt ∧ (bX pb).2.2.2.2.1 m9 = rt) (hdp : dp ≤ 71) (hrg : rg ≤ 625) (hhd : hd ≤ 41 + vr) (hlo : LpO K lp9) (hek : EkA pb K g (B 7) (B 11) sz) (hcO : OwC K dr mq c0) (hna : NaB pb G K (B 11) dr nd sz) (hen : EnV (B 26) (B 27) nd vr hd c0 sl) (hao : AsO as9) (hem : EmB pb B Ag pd m9 dp lw cs as9 hd sl []) (hrm : cs + 2 * (tlE g q + tlE g q2 + 1) ≤ 9999) (ht1 : K.1 q2 = 1) (hv1 : 1 ≤ g 0 q2 ∧ g 0 q2 + 1 ≤ n) (hlf1 : 1 ≤ tlE g q2 ∧ 1 ≤ ndE g q2) (hnd1 : ndE g q2 ≤ 243) (hkp : PlK (K.2.1 0 q)) (hlfq : 1 ≤ tlE g q ∧ 1 ≤ ndE g q) (hndq : ndE g q ≤ 243) (hout : ¬ InE g q2 q) (hO : OKP G h0 a (upd (upd (upd (upd (upd (upd (upd (upd F 2 (nI sz)) 5 (nI cs)) 6 (nI rg)) 7 (nI hd)) 8 (nI dp)) 12 (nI vr)) 13 as9) 16 ls9) (updR (updR (updR R 2 (.ref pq)) 3 (.ref mq)) 4 (va_rf lp9)) Z B J K w) (hl0 : l.stackTraces = false) : PBn l G pX0 yX0_assign cX0_assign 5 none ({ frames := (5 * n + 36), cells := 1, slots := 6, locals := (200 * n + 660) }) [.ref (a 4), .ref q, .ref q2] w (fun (v : Option Value) (u : va_W × (PK × (Nat → Nat → Int32) × Nat × Int32 × Int32 × Int32 × Nat × Nat × Nat × (Nat → AS) × (Nat → Nat))) => v = none ∧ (SmW B u.2.2.1 cs) ∧ (BdE K u.2.1) ∧ (BeF K u.2.1) ∧ (BeL K u.2.1 none) ∧ (Bth B u.2.2.1) ∧ (BsR B u.2.2.1) ∧ (cs ≤ u.2.2.2.1 ∧ u.2.2.2.1 + 1 ≤ cs + 2 * (tlE g q + tlE g q2 + 1)) ∧ (dp ≤ u.2.2.2.2.2.2.2.2.2.1 ∧ u.2.2.2.2.2.2.2.2.2.1 ≤ 71) ∧ (vr ≤ u.2.2.2.2.2.2.2.1 ∧ u.2.2.2.2.2.2.2.1 ≤ 30 ∧ u.2.2.2.2.2.2.2.2.1 + vr = hd + u.2.2.2.2.2.2.2.1) ∧ (AsO u.2.2.2.2.1) ∧ (VrS B u.2.2.1 vr) ∧ (cs < u.2.2.2.1) ∧ (EnV (u.2.2.1 26) (u.2.2.1 27) nd u.2.2.2.2.2.2.2.1 u.2.2.2.2.2.2.2.2.1 c0 u.2.2.2.2.2.2.2.2.2.2.2) ∧ (StW pb.1 pb.2.1 pb.2.2.1 pb.2.2.2 Ag u.2.2.2.2.2.2.2.2.2.2.1 Q9 Q9 pd pd m9 u.2.2.2.2.2.2.2.2.2.1 lw cs u.2.2.2.1 as9 u.2.2.2.2.1 hd u.2.2.2.2.2.2.2.2.1 sl u.2.2.2.2.2.2.2.2.2.2.2 gr gr (u.2.2.1 16) (u.2.2.1 17) (u.2.2.1 18) (u.2.2.1 19) []) ∧ (u.2.2.2.2.2.2.2.2.1 = hd) ∧ (OKP G h0 a (upd (upd (upd (upd (upd (upd (upd (upd (upd (upd F 2 (nI sz)) 5 (nI u.2.2.2.1)) 6 (nI rg)) 7 (nI u.2.2.2.2.2.2.2.2.1)) 8 (nI u.2.2.2.2.2.2.2.2.2.1)) 12 (nI u.2.2.2.2.2.2.2.1)) 13 u.2.2.2.2.1) 14 u.2.2.2.2.2.1) 15 u.2.2.2.2.2.2.1) 16 ls9) (updR (updR (updR R 2 (.ref pq)) 3 (.ref mq)) 4 (va_rf lp9)) Z u.2.2.1 J u.2.1 u.1)) (fun u => u.1) (fun (u : va_W × (PK × (Nat → Nat → Int32) × Nat × Int32 × Int32 × Int32 × Nat × Nat × Nat × (Nat → AS) × (Nat → Nat))) => 0) (fun (u : va_W × (PK × (Nat → Nat → Int32) × Nat × Int32 × Int32 × Int32 × Nat × Nat × Nat × (Nat → AS) × (Nat → Nat))) => 0) (fun (u : va_W × (Nat → Int32) × (Nat → Value) × (Nat → Nat → Int32)) => ThQ G h0 a (upd (upd (upd (upd (upd (upd (upd (upd F 2 (nI sz)) 5 (nI cs)) 6 (nI rg)) 7 (nI hd)) 8 (nI dp)) 12 (nI vr)) 13 as9) 16 ls9) (updR (updR (updR R 2 (.ref pq)) 3 (.ref mq)) 4 (va_rf lp9)) Z B J u) (fun u => u.1) := by
  intro sz
  refine vx_ofW (cc := cX0_assign) (maxL := 5) (ret := none) (by decide) rfl ?_
  intro p e s m args below meth c s₁ B9 hml hnt hv
  obtain ⟨rfl, hsz, hP, hD0, hE, hX⟩ := hv
  have hx := B9.exec
  have hb := B9.bytes
  have hr := B9.returns
  have hts := atoms_spec (ws := Cond.code yX0_assign cX0_assign 5 none :: pw) B9.pre
  have hq : ∀ w ∈ pw, w.before _ s = true := fun w h => hts w (List.mem_cons_of_mem _ h)
  have hown : s.vm.findClass RX0 = some m.cls := findClass_of_methodNamed B9.named
  have hlocks := B9.notSynchronized
  subst hsz
  have hD := hD0.self (sz := s.heap.size)
  have hA : ∀ q : Nat, s.heap.size ≤ q → va_A w s.heap.size q := fun q h => Or.inr h
  generalize va_A w s.heap.size = A at hD hE hA ⊢
  have hS : va_S A s.heap s.heap [] := va_S.rf
  have hl := lv_entry ([.ref (a 4), .ref q, .ref q2]) (n := 5) (Nat.le_of_ble_eq_true rfl)
  rw [lg_entry_eq]
  generalize (lg_sl ([.ref (a 4), .ref q, .ref q2]) ++ List.replicate (5 - (lg_sl ([.ref (a 4), .ref q, .ref q2])).length) Slot.unset).toArray = ls at hl ⊢
  have hl : lv_has ls 5 [(0, .ref (a 4)), (1, .ref q), (2, .ref q2)] := hl
  have hpg := hps.1
  have hp1 := hpg.1
  have hp2 := hpg.2.1
  have hp3 := hpg.2.2.1
  have hp4 := hpg.2.2.2.1
  have hp5 := hpg.2.2.2.2.1
  have hp6 := hpg.2.2.2.2.2.1
  have hp8 := hpg.2.2.2.2.2.2.2.1
  have hp9 := hpg.2.2.2.2.2.2.2.2
  have hdr0 : ¬ K.1 dr = 0 := by rw [hp4]; decide
  have hrl := hrv.1.lt hna.1.1
  have hcO9 := hcO
  obtain ⟨dO, hdO, htO, hrO, hnO⟩ := hcO9
  have hst0 : StW pb.1 pb.2.1 pb.2.2.1 pb.2.2.2 Ag Ag Q9 Q9 pd pd m9 dp lw cs cs as9 as9 hd hd sl sl gr gr (B 16) (B 17) (B 18) (B 19) ([] : List Nat) := StW.nil hem
  obtain ⟨kd, hkd⟩ : ∃ z : Int32, K.2.1 0 q = z := ⟨_, rfl⟩
  obtain ⟨tk, htk⟩ : ∃ z : Int32, K.2.1 1 q = z := ⟨_, rfl⟩
  have hek9 := hek q hqT hqL.1
  refine lv_aload_n hx hb dX0_assign_0 rfl (lv_at hl 1 rfl) ?_
  refine p_get (v := .int kd) (C := RX7) (Tc := TX7) (N := 11) (ci := 13) hx hb hq pin_wsX70 hown hE hP hO (by rw [hqT]; decide) (rep_1 hqT) rfl 0 (by decide) (hq _ pw_166) (fun _ h9 => h9) (congrArg (fun z => some (Value.int z)) hkd) dX0_assign_1 ?_
  refine lv_iconst (v := 5) hx hb dX0_assign_4 (by decide) ?_
  refine lv_icmp_ne (tgt := 26) hx hb dX0_assign_5 (by decide) (fun c1 => ?_) (fun c1 => ?_)
  · refine lv_iconst (v := (-1)) hx hb dX0_assign_26 (by decide) ?_
    refine lv_istore_n (lv' := [(3, .int (-1)), (0, .ref (a 4)), (1, .ref q), (2, .ref q2)]) hx hb dX0_assign_27 rfl hl (by decide) rfl (fun ls hl => ?_)
    refine lv_iload_n hx hb dX0_assign_28 rfl (lv_at hl 0 rfl) ?_
    refine lv_iconst (v := (-1)) hx hb dX0_assign_29 (by decide) ?_
    refine lv_icmp_eq (tgt := 79) hx hb dX0_assign_30 (by decide) (fun c2 => ?_) (fun c2 => absurd c2 (by decide))
    refine lv_aload_n hx hb dX0_assign_79 rfl (lv_at hl 2 rfl) ?_
    refine p_get (v := .int kd) (C := RX7) (Tc := TX7) (N := 11) (ci := 13) hx hb hq pin_wsX70 hown hE hP hO (by rw [hqT]; decide) (rep_1 hqT) rfl 0 (by decide) (hq _ pw_166) (fun _ h9 => h9) (congrArg (fun z => some (Value.int z)) hkd) dX0_assign_80 ?_
    refine lv_bipush (v := 14) hx hb dX0_assign_83 (by decide) ?_
    refine lv_icmp_ne (tgt := 121) hx hb dX0_assign_85 (by decide) (fun c3 => ?_) (fun c3 => ?_)
    · refine lv_aload_n hx hb dX0_assign_121 rfl (lv_at hl 2 rfl) ?_
      refine p_get (v := .int kd) (C := RX7) (Tc := TX7) (N := 11) (ci := 13) hx hb hq pin_wsX70 hown hE hP hO (by rw [hqT]; decide) (rep_1 hqT) rfl 0 (by decide) (hq _ pw_166) (fun _ h9 => h9) (congrArg (fun z => some (Value.int z)) hkd) dX0_assign_122 ?_
      refine lv_iconst (v := 5) hx hb dX0_assign_125 (by decide) ?_
      refine lv_icmp_ne (tgt := 137) hx hb dX0_assign_126 (by decide) (fun c4 => ?_) (fun c4 => ?_)
      · have hk12 : K.2.1 0 q = 12 := by
          rcases hkp with z | z | z
          · exact absurd (hkd.symm.trans z) c4
          · exact z
          · exact absurd (hkd.symm.trans z) c3
        obtain ⟨z1, hc0, hy0, hw0⟩ := NdO.ch (hwp.1 q hqT hqL.1) (f := 0) (by decide) ((hwp.1 q hqT hqL.1).1.1 (by rw [hk12]; decide))
        have hz0 : 1 ≤ g 0 z1 ∧ g 0 z1 + 1 ≤ n := ⟨hw0.1, (by have z := hw0.2; omega)⟩
        obtain ⟨hlfa, htla, hnda, hina⟩ := hek9.1 (by rw [hk12]; decide) z1 hc0
        refine lv_aload_n hx hb dX0_assign_137 rfl (lv_at hl 1 rfl) ?_
        refine lv_aload_n hx hb dX0_assign_138 rfl (lv_at hl 2 rfl) ?_
        have hO : OKP G h0 a (upd (upd (upd (upd (upd (upd (upd (upd (upd (upd (upd (upd (upd F 2 (nI sz)) 5 (nI cs)) 6 (nI rg)) 7 (nI hd)) 8 (nI dp)) 12 (nI vr)) 13 as9) 16 ls9) 2 (nI sz)) 5 (nI cs)) 7 (nI hd)) 12 (nI vr)) 13 as9) (updR (updR (updR (updR (updR R 2 (.ref pq)) 3 (.ref mq)) 4 (va_rf lp9)) 2 (.ref pq)) 3 (.ref mq)) Z B J K w := hO.to rfl
        obtain ⟨_, qr8, hqr9⟩ := hO.2.1 24 _ (sg_24 G h0 a _ _ _ _ _)
        refine pn_V0 (G := G) (As := [.ref q]) (rest := []) hx hb hml hown hq hE hX pX0_al hP hD hS hA hl.1 (Y_fieldBehind l G h0 a (upd (upd (upd (upd (upd (upd (upd (upd F 2 (nI sz)) 5 (nI cs)) 6 (nI rg)) 7 (nI hd)) 8 (nI dp)) 12 (nI vr)) 13 as9) 16 ls9) (updR (updR (updR R 2 (.ref pq)) 3 (.ref mq)) 4 (va_rf lp9)) Z B J K w pq dr ml nd nm cp it s9 q mq cs vr sz n z1 g rk pb Ag pd sl ([] : List Nat) m9 dp lw hd c0 as9 True (by omega) (BdE.wp BdE.rfl hwp) (BdE.pt BdE.rfl hwp hps) (BdE.rko BdE.rfl hrk) (by omega) (by omega) hng hmq hqT hqL (EkA.be BdE.rfl (BsR.rfl 7 (by decide) (by decide)) (BsR.rfl 11 (by decide) (by decide)) hek) (OwC.be BdE.rfl hmq hdr0 hcO) (NaB.be BdE.rfl BeF.rfl hwp hps.2.1 hdr0 (BsR.rfl 11 (by decide) (by decide)) hna) hen (fun _ => hst0.1) (by omega) (by show 0 + ndE g q ≤ 248; omega) hlfq hc0 hy0 hz0 hlfa hina htla hnda hk12 (IhY.all l G _) hO hl0) (gV pw_246 pw_247 pw_248 pw_63 pw_210) hV_X0_fieldBehind qr8 0 hqr9 rfl rfl rfl (Nat.le_of_ble_eq_true rfl) dX0_assign_139 ⟨(by show 0 + 1 ≤ 1; omega), (by show 0 + 6 ≤ 6; omega)⟩ ⟨(by show (5 * n + 33) + 1 ≤ (5 * n + 36); omega), (by show 8 + (3 + 11) + (200 * n + 560) ≤ (200 * n + 660); omega)⟩ (fun v7 u5 H locs hw6 hP hD hS => ?_) (fun ux ce9 q9 H9 locs9 hux hP9 hD9 hS9 hce hcv hcl => pb_out ux (ThQ.up (Thx.same (Thx.same (Thx.same (Thx.same (Thx.same Thx.rfl rfl) rfl) rfl) rfl) rfl) (show RhX (updR (updR (updR R 2 (.ref pq)) 3 (.ref mq)) 4 (va_rf lp9)) (updR (updR (updR (updR (updR R 2 (.ref pq)) 3 (.ref mq)) 4 (va_rf lp9)) 2 (.ref pq)) 3 (.ref mq)) from fun k9 hk9 => by unfold updR; simp only [show ¬ k9 = 1 by omega, show ¬ k9 = 2 by omega, show ¬ k9 = 3 by omega, show ¬ k9 = 4 by omega, if_false]) hux) hnt hlocks hce hcv hcl hP9 hD9 hS9 (by show 0 + 1 ≤ 1; omega) (by show 0 + 6 ≤ 6; omega))
        obtain ⟨w, K10, B11, cs12, as13, wt14, wf15, t16, Ag17, n18, c19⟩ := u5
        obtain ⟨hw6, h20, h21, h22, h23, h24, h25, h26, h27, h28, h29, h30, h31, h32, h33, h34, hO⟩ := hw6
        have h20 : SmW B B11 cs := h20
        have h21 : BdE K K10 := h21
        have h22 : BeF K K10 := h22
        have h23 : BeL K K10 none := h23
        have h24 : BeI K K10 g q := h24
        have h25 : Bth B B11 := h25
        have h26 : BeR B B11 := h26
        have h27 : t16 < 128 := h27
        have h28 : cs ≤ cs12 ∧ cs12 + 1 ≤ cs + 2 * tlE g q := h28
        have h29 : AsE as9 as13 := h29
        have h30 : True → EvB pb B B11 Ag Ag17 pd m9 dp lw cs cs12 as9 as13 hd sl (c19 :: ([] : List Nat)) := h30
        have h31 : K10.2.1 5 q = nI n18 ∧ n18 < 5000 := h31
        have h32 : n18 < pb.2.1 c19 ∧ pb.2.2.1 c19 n18 = tyc t16 := h32
        have h33 : TyV nd t16 := h33
        have h34 : c19 < nd := h34
        obtain rfl : v7 = some (.int (nI t16)) := hw6
        have hf35 : K10.1 pq = 7 := (BdE.T h21 hp1 (by decide))
        have hf36 : K10.2.2.1 18 pq = some (a 1) := (BdE.C h21 (by rw [hp1]; decide) 18).trans hp2
        have hf37 : K10.2.2.1 14 pq = some dr := (BdE.C h21 (by rw [hp1]; decide) 14).trans hp3
        have hf38 : K10.1 dr = 8 := (BdE.T h21 hp4 (by decide))
        have hf39 : K10.2.2.1 15 pq = some ml := (BdE.C h21 (by rw [hp1]; decide) 15).trans hp5
        have hf40 : K10.1 ml = 5 := (BdE.T h21 hp6 (by decide))
        have hf41 : K10.2.1 24 pq = (nI nd) := (BdE.I h21 (by rw [hp1]; decide) (by decide) (by decide)).trans hp8
        have hf42 : K10.1 q = 1 := (BdE.T h21 hqT (by decide))
        have hf43 : K10.1 mq = 3 := (BdE.T h21 hmq (by decide))
        have hf44 : K10.2.1 10 mq = (nI rt) := (BdE.I h21 (by rw [hmq]; decide) (by decide) (by decide)).trans hrt
        have hf45 : K10.2.1 15 dO = (nI c0) := (BdE.I h21 (by rw [htO]; decide) (by decide) (by decide)).trans hnO
        have hf46 : K10.2.2.1 5 mq = some dO := (BdE.C h21 (by rw [hmq]; decide) 5).trans hdO
        have hf47 : K10.1 dO = 4 := (BdE.T h21 htO (by decide))
        have hf48 : K10.2.1 0 q = kd := (BdE.I h21 (by rw [hqT]; decide) (by decide) (by decide)).trans hkd
        have hf49 : K10.2.1 1 q = tk := (BdE.I h21 (by rw [hqT]; decide) (by decide) (by decide)).trans htk
        have hf50 : K10.1 q2 = 1 := (BdE.T h21 ht1 (by decide))
        have hf51 : K10.2.2.1 0 q = some z1 := (BdE.C h21 (by rw [hqT]; decide) 0).trans hc0
        have hf52 : K10.1 z1 = 1 := (BdE.T h21 hy0 (by decide))
        have hO : OKP G h0 a (upd (upd (upd (upd (upd (upd (upd (upd (upd (upd F 2 (nI sz)) 5 (nI cs12)) 6 (nI rg)) 7 (nI hd)) 8 (nI dp)) 12 (nI vr)) 13 as13) 14 wt14) 15 wf15) 16 ls9) (updR (updR (updR R 2 (.ref pq)) 3 (.ref mq)) 4 (va_rf lp9)) Z B11 J K10 w := hO.to rfl
        refine W.widen (k := 0) (n := 0) (by show 0 + 0 ≤ 0; omega) (by show 0 + 0 ≤ 0; omega) ?_
        refine W.eq (g2 := F0 m 142 ls [.int (nI t16)]) rfl ?_
        have hbe53 := BdE.trans BdE.rfl h21
        have hbb54 : Bth B B11 := Bth.trans (show Thx (upd (upd (upd (upd (upd (upd (upd (upd F 2 (nI sz)) 5 (nI cs)) 6 (nI rg)) 7 (nI hd)) 8 (nI dp)) 12 (nI vr)) 13 as9) 16 ls9) (upd (upd (upd (upd (upd (upd (upd (upd F 2 (nI sz)) 5 (nI cs)) 6 (nI rg)) 7 (nI hd)) 8 (nI dp)) 12 (nI vr)) 13 as9) 16 ls9) B B from Thx.rfl).2 h25
        have hng55 : Nng (B11 18) := h25.2 hng
        have hsw56 : ∀ x9 : Nat, x9 < cs → (B11 16) x9 = B 16 x9 := fun x9 hx9 => ((h20 x9 (by omega)).1).trans ((fun _ _ => rfl) x9 hx9)
        have hsw57 : ∀ x9 : Nat, x9 < cs → (B11 17) x9 = B 17 x9 := fun x9 hx9 => ((h20 x9 (by omega)).2.1).trans ((fun _ _ => rfl) x9 hx9)
        have hsw58 : ∀ x9 : Nat, x9 < cs → (B11 18) x9 = B 18 x9 := fun x9 hx9 => ((h20 x9 (by omega)).2.2.1).trans ((fun _ _ => rfl) x9 hx9)
        have hsw59 : ∀ x9 : Nat, x9 < cs → (B11 19) x9 = B 19 x9 := fun x9 hx9 => ((h20 x9 (by omega)).2.2.2).trans ((fun _ _ => rfl) x9 hx9)
        have hbf60 := BeF.trans BeF.rfl h22 BdE.rfl
        have hbl62 := BeL.trans BeL.rfl h23 BdE.rfl
        have hbr61 : BsR B B11 := BsR.trans BsR.rfl (BeR.bs h26)
        have hen63 : EnV (B11 26) (B11 27) nd vr hd c0 sl := EnV.of (h26 26 (by decide)) (h26 27 (by decide)) hen
        have hvs64 : VrS B B11 vr := fun i9 hi9 => ⟨(congrFun (h26 26 (by decide)) i9).trans (VrS.rfl i9 hi9).1, (congrFun (h26 27 (by decide)) i9).trans (VrS.rfl i9 hi9).2⟩
        have hao65 : AsO as13 := AsE.aso h29 hao
        have hst66 : StW pb.1 pb.2.1 pb.2.2.1 pb.2.2.2 Ag Ag17 Q9 Q9 pd pd m9 dp lw cs cs12 as9 as13 hd hd sl sl gr gr (B11 16) (B11 17) (B11 18) (B11 19) (c19 :: ([] : List Nat)) := StW.ev hst0 (h30 trivial)
        refine lv_istore (lv' := [(4, .int (nI t16)), (3, .int (-1)), (0, .ref (a 4)), (1, .ref q), (2, .ref q2)]) hx hb dX0_assign_142 hl (by decide) rfl (fun ls hl => ?_)
        refine lv_aload_n hx hb dX0_assign_144 rfl (lv_at hl 2 rfl) ?_
        refine lv_aload_n hx hb dX0_assign_145 rfl (lv_at hl 4 rfl) ?_
        refine lv_aload_n hx hb dX0_assign_146 rfl (lv_at hl 2 rfl) ?_
        refine lv_aload_n hx hb dX0_assign_147 rfl (lv_at hl 4 rfl) ?_
        have hO : OKP G h0 a (upd (upd (upd (upd (upd (upd (upd (upd (upd (upd (upd (upd (upd (upd (upd (upd (upd F 2 (nI sz)) 5 (nI cs)) 6 (nI rg)) 7 (nI hd)) 8 (nI dp)) 12 (nI vr)) 13 as9) 16 ls9) 5 (nI cs12)) 13 as13) 14 wt14) 15 wf15) 2 (nI sz)) 5 (nI cs12)) 7 (nI hd)) 12 (nI vr)) 13 as13) (updR (updR (updR (updR (updR R 2 (.ref pq)) 3 (.ref mq)) 4 (va_rf lp9)) 2 (.ref pq)) 3 (.ref mq)) Z B11 J K10 w := hO.to rfl
        obtain ⟨_, qr70, hqr71⟩ := hO.2.1 24 _ (sg_24 G h0 a _ _ _ _ _)
        refine pn_V0 (G := G) (As := [.ref q2]) (rest := [.ref q2, .ref (a 4)]) hx hb hml hown hq hE hX pX0_al hP hD hS hA hl.1 ((PY_all l G (n - 1)) h0 a (upd (upd (upd (upd (upd (upd (upd (upd (upd (upd (upd (upd F 2 (nI sz)) 5 (nI cs)) 6 (nI rg)) 7 (nI hd)) 8 (nI dp)) 12 (nI vr)) 13 as9) 16 ls9) 5 (nI cs12)) 13 as13) 14 wt14) 15 wf15) (updR (updR (updR R 2 (.ref pq)) 3 (.ref mq)) 4 (va_rf lp9)) Z B11 J K10 w pq dr ml nd nm cp it s9 q2 mq cs12 vr sz g rk pb Ag17 pd sl (c19 :: ([] : List Nat)) m9 dp lw hd c0 as13 True (by omega) (BdE.wp hbe53 hwp) (BdE.pt hbe53 hwp hps) (BdE.rko hbe53 hrk) (by omega) (by omega) hng55 hf43 hf50 ⟨hv1.1, (by have z9 := hv1; omega)⟩ (EkA.be hbe53 (hbr61 7 (by decide) (by decide)) (hbr61 11 (by decide) (by decide)) hek) (OwC.be hbe53 hmq hdr0 hcO) (NaB.be hbe53 hbf60 hwp hps.2.1 hdr0 (hbr61 11 (by decide) (by decide)) hna) hen63 (fun _ => hst66.1) (by omega) (by show 1 + ndE g q2 ≤ 248; omega) hlf1 hO hl0) (gV pw_173 pw_174 pw_175 pw_63 pw_224) hV_X0_value qr70 0 hqr71 rfl rfl rfl (Nat.le_of_ble_eq_true rfl) dX0_assign_148 ⟨(by show 0 + 1 ≤ 1; omega), (by show 0 + 6 ≤ 6; omega)⟩ ⟨(by show (5 * (n - 1) + 34) + 1 ≤ (5 * n + 36); omega), (by show 8 + (3 + 11) + (200 * (n - 1) + 600) ≤ (200 * n + 660); omega)⟩ (fun v69 u67 H locs hw68 hP hD hS => ?_) (fun ux ce9 q9 H9 locs9 hux hP9 hD9 hS9 hce hcv hcl => pb_out ux (ThQ.up (Thx.same (Thx.same (Thx.same (Thx.same (Thx.same (Thx.f (Thx.f (Thx.f (Thx.f (Bth.thx hbb54) (by omega)) (by omega)) (by omega)) (by omega)) rfl) rfl) rfl) rfl) rfl) (show RhX (updR (updR (updR R 2 (.ref pq)) 3 (.ref mq)) 4 (va_rf lp9)) (updR (updR (updR (updR (updR R 2 (.ref pq)) 3 (.ref mq)) 4 (va_rf lp9)) 2 (.ref pq)) 3 (.ref mq)) from fun k9 hk9 => by unfold updR; simp only [show ¬ k9 = 1 by omega, show ¬ k9 = 2 by omega, show ¬ k9 = 3 by omega, show ¬ k9 = 4 by omega, if_false]) hux) hnt hlocks hce hcv hcl hP9 hD9 hS9 (by show 0 + 1 ≤ 1; omega) (by show 0 + 6 ≤ 6; omega))
        obtain ⟨w, K72, B73, cs74, as75, wt76, wf77, t78, Ag79, u80⟩ := u67
        obtain ⟨hw68, h81, h82, h83, h84, h85, h86, h87, h88, h89, h90, h91, h92, hO⟩ := hw68
        have h81 : SmW B11 B73 cs12 := h81
        have h82 : BdE K10 K72 := h82
        have h83 : BeF K10 K72 := h83
        have h84 : BeL K10 K72 none := h84
        have h85 : BeI K10 K72 g q2 := h85
        have h86 : Bth B11 B73 := h86
        have h87 : BeR B11 B73 := h87
        have h88 : t78 < 128 := h88
        have h89 : cs12 ≤ cs74 ∧ cs74 + 0 ≤ cs12 + 2 * tlE g q2 := h89
        have h90 : AsE as13 as75 ∧ AsE as13 wt76 ∧ AsE as13 wf77 := h90
        have h91 : True → VaQ pb B11 B73 Ag17 Ag79 pd m9 dp lw cs12 cs74 as13 as75 wt76 wf77 hd sl (c19 :: ([] : List Nat)) t78 u80 (K10.2.1 0 q2) := h91
        have h92 : CaK (K10.2.1 0 q2) → cs74 + 2 ≤ cs12 + 2 * tlE g q2 := h92
        obtain rfl : v69 = some (.int (nI t78)) := hw68
        have hf93 : K72.1 pq = 7 := (BdE.T h82 hf35 (by decide))
        have hf94 : K72.2.2.1 18 pq = some (a 1) := (BdE.C h82 (by rw [hf35]; decide) 18).trans hf36
        have hf95 : K72.2.2.1 14 pq = some dr := (BdE.C h82 (by rw [hf35]; decide) 14).trans hf37
        have hf96 : K72.1 dr = 8 := (BdE.T h82 hf38 (by decide))
        have hf97 : K72.2.2.1 15 pq = some ml := (BdE.C h82 (by rw [hf35]; decide) 15).trans hf39
        have hf98 : K72.1 ml = 5 := (BdE.T h82 hf40 (by decide))
        have hf99 : K72.2.1 24 pq = (nI nd) := (BdE.I h82 (by rw [hf35]; decide) (by decide) (by decide)).trans hf41
        have hf100 : K72.1 q = 1 := (BdE.T h82 hf42 (by decide))
        have hf101 : K72.1 mq = 3 := (BdE.T h82 hf43 (by decide))
        have hf102 : K72.2.1 10 mq = (nI rt) := (BdE.I h82 (by rw [hf43]; decide) (by decide) (by decide)).trans hf44
        have hf103 : K72.2.1 15 dO = (nI c0) := (BdE.I h82 (by rw [hf47]; decide) (by decide) (by decide)).trans hf45
        have hf104 : K72.2.2.1 5 mq = some dO := (BdE.C h82 (by rw [hf43]; decide) 5).trans hf46
        have hf105 : K72.1 dO = 4 := (BdE.T h82 hf47 (by decide))
        have hf106 : K72.2.1 0 q = kd := (BdE.I h82 (by rw [hf42]; decide) (by decide) (by decide)).trans hf48
        have hf107 : K72.2.1 1 q = tk := (BdE.I h82 (by rw [hf42]; decide) (by decide) (by decide)).trans hf49
        have hf108 : K72.1 q2 = 1 := (BdE.T h82 hf50 (by decide))
        have hf109 : K72.2.2.1 0 q = some z1 := (BdE.C h82 (by rw [hf42]; decide) 0).trans hf51
        have hf110 : K72.1 z1 = 1 := (BdE.T h82 hf52 (by decide))
        have hO : OKP G h0 a (upd (upd (upd (upd (upd (upd (upd (upd (upd (upd F 2 (nI sz)) 5 (nI cs74)) 6 (nI rg)) 7 (nI hd)) 8 (nI dp)) 12 (nI vr)) 13 as75) 14 wt76) 15 wf77) 16 ls9) (updR (updR (updR R 2 (.ref pq)) 3 (.ref mq)) 4 (va_rf lp9)) Z B73 J K72 w := hO.to rfl
        refine W.widen (k := 0) (n := 0) (by show 0 + 0 ≤ 0; omega) (by show 0 + 0 ≤ 0; omega) ?_
        refine W.eq (g2 := F0 m 151 ls [.int (nI t78), .ref q2, .ref (a 4)]) rfl ?_
        have hbe111 := BdE.trans hbe53 h82
        have hbb112 : Bth B B73 := Bth.trans (show Thx (upd (upd (upd (upd (upd (upd (upd (upd F 2 (nI sz)) 5 (nI cs)) 6 (nI rg)) 7 (nI hd)) 8 (nI dp)) 12 (nI vr)) 13 as9) 16 ls9) (upd (upd (upd (upd (upd (upd (upd (upd (upd (upd (upd (upd F 2 (nI sz)) 5 (nI cs)) 6 (nI rg)) 7 (nI hd)) 8 (nI dp)) 12 (nI vr)) 13 as9) 16 ls9) 5 (nI cs12)) 13 as13) 14 wt14) 15 wf15) B B11 from (Thx.f (Thx.f (Thx.f (Thx.f (Bth.thx hbb54) (by omega)) (by omega)) (by omega)) (by omega))).2 h86
        have hng113 : Nng (B73 18) := h86.2 hng55
        have hsw114 : ∀ x9 : Nat, x9 < cs → (B73 16) x9 = B 16 x9 := fun x9 hx9 => ((h81 x9 (by omega)).1).trans (hsw56 x9 hx9)
        have hsw115 : ∀ x9 : Nat, x9 < cs → (B73 17) x9 = B 17 x9 := fun x9 hx9 => ((h81 x9 (by omega)).2.1).trans (hsw57 x9 hx9)
        have hsw116 : ∀ x9 : Nat, x9 < cs → (B73 18) x9 = B 18 x9 := fun x9 hx9 => ((h81 x9 (by omega)).2.2.1).trans (hsw58 x9 hx9)
        have hsw117 : ∀ x9 : Nat, x9 < cs → (B73 19) x9 = B 19 x9 := fun x9 hx9 => ((h81 x9 (by omega)).2.2.2).trans (hsw59 x9 hx9)
        have hbf118 := BeF.trans hbf60 h83 hbe53
        have hbl120 := BeL.trans hbl62 h84 hbe53
        have hbr119 : BsR B B73 := BsR.trans hbr61 (BeR.bs h87)
        have hen121 : EnV (B73 26) (B73 27) nd vr hd c0 sl := EnV.of (h87 26 (by decide)) (h87 27 (by decide)) hen63
        have hvs122 : VrS B B73 vr := fun i9 hi9 => ⟨(congrFun (h87 26 (by decide)) i9).trans (hvs64 i9 hi9).1, (congrFun (h87 27 (by decide)) i9).trans (hvs64 i9 hi9).2⟩
        have hao123 : AsO as75 ∧ AsO wt76 ∧ AsO wf77 := ⟨AsE.aso h90.1 hao65, AsE.aso h90.2.1 hao65, AsE.aso h90.2.2 hao65⟩
        have hf124 : K72.2.1 5 q = (nI n18) := (h85 q hf42 hout).trans h31.1
        refine lv_iload hx hb dX0_assign_151 (lv_at hl 0 rfl) ?_
        have hO : OKP G h0 a (upd (upd (upd (upd (upd (upd (upd (upd (upd (upd (upd (upd (upd F 2 (nI sz)) 5 (nI cs)) 6 (nI rg)) 7 (nI hd)) 8 (nI dp)) 12 (nI vr)) 13 as9) 16 ls9) 5 (nI cs74)) 13 as75) 14 wt76) 15 wf77) 2 (nI sz)) (updR (updR (updR (updR R 2 (.ref pq)) 3 (.ref mq)) 4 (va_rf lp9)) 2 (.ref pq)) Z B73 J K72 w := hO.to rfl
        obtain ⟨_, qr128, hqr129⟩ := hO.2.1 24 _ (sg_24 G h0 a _ _ _ _ _)
        refine pn_V0 (G := G) (As := [.ref q2, .int (nI t78), .int (nI t16)]) (rest := []) hx hb hml hown hq hE hX pX0_al hP hD hS hA hl.1 (Y_fit l G h0 a (upd (upd (upd (upd (upd (upd (upd (upd (upd (upd (upd (upd F 2 (nI sz)) 5 (nI cs)) 6 (nI rg)) 7 (nI hd)) 8 (nI dp)) 12 (nI vr)) 13 as9) 16 ls9) 5 (nI cs74)) 13 as75) 14 wt76) 15 wf77) (updR (updR (updR R 2 (.ref pq)) 3 (.ref mq)) 4 (va_rf lp9)) Z B73 J K72 w pq dr ml nd q2 sz t78 t16 g pb (by omega) (BdE.pt hbe111 hwp hps).1 (BdE.pt hbe111 hwp hps).2.1 hf108 (by omega) hna.1.1 (NaB.be hbe111 hbf118 hwp hps.2.1 hdr0 (hbr119 11 (by decide) (by decide)) hna).1.2.2 hO hl0) (gV pw_176 pw_177 pw_178 pw_63 pw_114) hV_X0_fit qr128 0 hqr129 rfl rfl rfl (Nat.le_of_ble_eq_true rfl) dX0_assign_153 ⟨(by show 0 + 1 ≤ 1; omega), (by show 0 + 6 ≤ 6; omega)⟩ ⟨(by show 7 + 1 ≤ (5 * n + 36); omega), (by show 8 + (4 + 11) + 122 ≤ (200 * n + 660); omega)⟩ (fun v127 u125 H locs hw126 hP hD hS => ?_) (fun ux ce9 q9 H9 locs9 hux hP9 hD9 hS9 hce hcv hcl => pb_out ux (ThQ.up (Thx.same (Thx.f (Thx.f (Thx.f (Thx.f (Bth.thx hbb112) (by omega)) (by omega)) (by omega)) (by omega)) rfl) (show RhX (updR (updR (updR R 2 (.ref pq)) 3 (.ref mq)) 4 (va_rf lp9)) (updR (updR (updR (updR R 2 (.ref pq)) 3 (.ref mq)) 4 (va_rf lp9)) 2 (.ref pq)) from fun k9 hk9 => by unfold updR; simp only [show ¬ k9 = 1 by omega, show ¬ k9 = 2 by omega, show ¬ k9 = 3 by omega, show ¬ k9 = 4 by omega, if_false]) hux) hnt hlocks hce hcv hcl hP9 hD9 hS9 (by show 0 + 1 ≤ 1; omega) (by show 0 + 6 ≤ 6; omega))
        obtain ⟨w, _⟩ := u125
        obtain ⟨hw126, h130, hO⟩ := hw126
        have h130 : FtQ pb t78 t16 := h130
        obtain rfl : v127 = none := hw126
        have hO : OKP G h0 a (upd (upd (upd (upd (upd (upd (upd (upd (upd (upd F 2 (nI sz)) 5 (nI cs74)) 6 (nI rg)) 7 (nI hd)) 8 (nI dp)) 12 (nI vr)) 13 as75) 14 wt76) 15 wf77) 16 ls9) (updR (updR (updR R 2 (.ref pq)) 3 (.ref mq)) 4 (va_rf lp9)) Z B73 J K72 w := hO.to rfl
        refine W.widen (k := 0) (n := 0) (by show 0 + 0 ≤ 0; omega) (by show 0 + 0 ≤ 0; omega) ?_
        refine W.eq (g2 := F0 m 156 ls []) rfl ?_
        have hst131 : StW pb.1 pb.2.1 pb.2.2.1 pb.2.2.2 Ag Ag79 Q9 Q9 pd pd m9 dp lw cs cs74 as9 as75 hd hd sl sl gr gr (B73 16) (B73 17) (B73 18) (B73 19) (u80 :: (c19 :: ([] : List Nat))) := StW.ev hst66 (VaQ.ev (h91 trivial) h88 h130.1)
        have hut132 : UTb u80 (nI t78) as75 wt76 wf77 := VaQ.ut (h91 trivial) h130.1
        refine lv_aload_n hx hb dX0_assign_156 rfl (lv_at hl 2 rfl) ?_
        refine c_get (v := .ref (a 2)) (C := RX0) (Tc := TX0) (N := 13) (ci := 0) hx hb hq pin_wsX00 hown hE hP hO 24 (sg_24 G h0 a _ _ _ _ _) rfl 1 (by decide) (hq _ pw_5) (fun _ h9 => h9) rfl dX0_assign_157 ?_
        refine lv_bipush (v := 18) hx hb dX0_assign_160 (by decide) ?_
        refine lv_aload_n hx hb dX0_assign_162 rfl (lv_at hl 3 rfl) ?_
        refine p_get (v := .int (nI n18)) (C := RX7) (Tc := TX7) (N := 11) (ci := 13) hx hb hq pin_wsX70 hown hE hP hO (by rw [hf100]; decide) (rep_1 hf100) rfl 5 (by decide) (hq _ pw_142) (fun _ h9 => h9) (congrArg (fun z => some (Value.int z)) hf124) dX0_assign_163 ?_
        refine lv_iconst (v := 0) hx hb dX0_assign_166 (by decide) ?_
        have hO : OKW G h0 a (upd (upd (upd (upd (upd (upd (upd (upd (upd (upd (upd (upd F 2 (nI sz)) 5 (nI cs74)) 6 (nI rg)) 7 (nI hd)) 8 (nI dp)) 12 (nI vr)) 13 as75) 14 wt76) 15 wf77) 16 ls9) 5 (nI cs74)) 7 (nI hd)) (updR (updR (updR R 2 (.ref pq)) 3 (.ref mq)) 4 (va_rf lp9)) Z B73 J K72.1 (fun q99 x99 => x99 = rep G a K72 q99) w := hO.to rfl
        obtain ⟨_, qr136, hqr137⟩ := hO.2.1 13 _ (sg_13 G h0 a _ _ _ _ _)
        refine pc_V0 (G := G) (As := [.int 18, .int (nI n18), .int 0]) (rest := []) hx hb hml hown hq hE hX pX0_al hP hD hS hA hl.1 (Y_emit l G h0 a (upd (upd (upd (upd (upd (upd (upd (upd (upd (upd F 2 (nI sz)) 5 (nI cs74)) 6 (nI rg)) 7 (nI hd)) 8 (nI dp)) 12 (nI vr)) 13 as75) 14 wt76) 15 wf77) 16 ls9) (updR (updR (updR R 2 (.ref pq)) 3 (.ref mq)) 4 (va_rf lp9)) Z B73 J K72.1 (fun q99 x99 => x99 = rep G a K72 q99) w 18 (nI n18) 0 cs74 hd (by omega) hO) (gV pw_129 pw_130 pw_131 pw_70 pw_115) hV_X1_emit qr136 1 hqr137 rfl rfl rfl (Nat.le_of_ble_eq_true rfl) dX0_assign_167 ⟨(by show 0 + 0 ≤ 1; omega), (by show 0 + 0 ≤ 6; omega)⟩ ⟨(by show 2 + 1 ≤ (5 * n + 36); omega), (by show 8 + (4 + 11) + 60 ≤ (200 * n + 660); omega)⟩ (fun v135 u133 H locs hw134 hP hD hS => ?_)
        obtain ⟨w, _⟩ := u133
        obtain ⟨hw134, hO⟩ := hw134
        obtain rfl : v135 = none := hw134
        have hO : OKP G h0 a (upd (upd (upd (upd (upd (upd (upd (upd (upd (upd F 2 (nI sz)) 5 (nI (cs74 + 1))) 6 (nI rg)) 7 (nI hd)) 8 (nI dp)) 12 (nI vr)) 13 as75) 14 wt76) 15 wf77) 16 ls9) (updR (updR (updR R 2 (.ref pq)) 3 (.ref mq)) 4 (va_rf lp9)) Z (updA (updA (updA (updA B73 16 (upd ((B73 16)) cs74 18)) 17 (upd ((B73 17)) cs74 (nI n18))) 18 (upd ((B73 18)) cs74 0)) 19 (upd ((B73 19)) cs74 (nI hd))) J K72 w := hO.to rfl
        refine W.widen (k := 0) (n := 0) (Nat.le_of_ble_eq_true rfl) (Nat.le_of_ble_eq_true rfl) ?_
        refine W.eq (g2 := F0 m 170 ls []) rfl ?_
        have hsw138 : ∀ x9 : Nat, x9 < cs → (upd ((B73 16)) cs74 18) x9 = B 16 x9 := fun x9 hx9 => (if_neg (by omega)).trans (hsw114 x9 hx9)
        have hsw139 : ∀ x9 : Nat, x9 < cs → (upd ((B73 17)) cs74 (nI n18)) x9 = B 17 x9 := fun x9 hx9 => (if_neg (by omega)).trans (hsw115 x9 hx9)
        have hsw140 : ∀ x9 : Nat, x9 < cs → (upd ((B73 18)) cs74 0) x9 = B 18 x9 := fun x9 hx9 => (if_neg (by omega)).trans (hsw116 x9 hx9)
        have hsw141 : ∀ x9 : Nat, x9 < cs → (upd ((B73 19)) cs74 (nI hd)) x9 = B 19 x9 := fun x9 hx9 => (if_neg (by omega)).trans (hsw117 x9 hx9)
        obtain ⟨Ag142, hst143⟩ : ∃ A5 : Nat → AS, StW pb.1 pb.2.1 pb.2.2.1 pb.2.2.2 Ag A5 Q9 Q9 pd pd m9 dp lw cs (cs74 + 1) as9 as75 hd hd sl sl gr gr (upd ((B73 16)) cs74 18) (upd ((B73 17)) cs74 (nI n18)) (upd ((B73 18)) cs74 0) (upd ((B73 19)) cs74 (nI hd)) ([] : List Nat) := ⟨(upS Ag79 (cs74 + 1) (rcA as75, hd, sl, ([] : List Nat))), StW.putf hst131 (by have z9 := hna.1.1; have z8 := hen.1.2.2; omega) h32.1 (by rw [h32.2, tyc_ne h130.2.1]; exact UTb.tlf hut132 h88 h130)⟩
        have hng144 : Nng (upd ((B73 18)) cs74 0) := Nng.set hng113 (k := 0) (by omega)
        refine W_size (fun hz1 hz2 => ?_)
        refine vx_ret ?_
        have hz145 : SmW B (updA (updA (updA (updA B73 16 (upd ((B73 16)) cs74 18)) 17 (upd ((B73 17)) cs74 (nI n18))) 18 (upd ((B73 18)) cs74 0)) 19 (upd ((B73 19)) cs74 (nI hd))) cs := (fun x9 hx9 => ⟨hsw138 x9 hx9, hsw139 x9 hx9, hsw140 x9 hx9, hsw141 x9 hx9⟩)
        have hz146 : BdE K K72 := hbe111
        have hz147 : BeF K K72 := hbf118
        have hz148 : BeL K K72 none := hbl120
        have hz149 : Bth B (updA (updA (updA (updA B73 16 (upd ((B73 16)) cs74 18)) 17 (upd ((B73 17)) cs74 (nI n18))) 18 (upd ((B73 18)) cs74 0)) 19 (upd ((B73 19)) cs74 (nI hd))) := (show Thx (upd (upd (upd (upd (upd (upd (upd (upd F 2 (nI sz)) 5 (nI cs)) 6 (nI rg)) 7 (nI hd)) 8 (nI dp)) 12 (nI vr)) 13 as9) 16 ls9) (upd (upd (upd (upd (upd (upd (upd (upd (upd (upd (upd (upd F 2 (nI sz)) 5 (nI cs)) 6 (nI rg)) 7 (nI hd)) 8 (nI dp)) 12 (nI vr)) 13 as9) 16 ls9) 5 (nI (cs74 + 1))) 13 as75) 14 wt76) 15 wf77) B (updA (updA (updA (updA B73 16 (upd ((B73 16)) cs74 18)) 17 (upd ((B73 17)) cs74 (nI n18))) 18 (upd ((B73 18)) cs74 0)) 19 (upd ((B73 19)) cs74 (nI hd))) from (Thx.b (Thx.b8 (Thx.b (Thx.b (Thx.f (Thx.f (Thx.f (Thx.f (Bth.thx hbb112) (by omega)) (by omega)) (by omega)) (by omega)) (by omega) (by decide)) (by omega) (by decide)) hng144) (by omega) (by decide))).2
        have hz150 : BsR B (updA (updA (updA (updA B73 16 (upd ((B73 16)) cs74 18)) 17 (upd ((B73 17)) cs74 (nI n18))) 18 (upd ((B73 18)) cs74 0)) 19 (upd ((B73 19)) cs74 (nI hd))) := (BsR.up (BsR.up (BsR.up (BsR.up hbr119 (by omega)) (by omega)) (by omega)) (by omega))
        have hz151 : cs ≤ (cs74 + 1) ∧ (cs74 + 1) + 1 ≤ cs + 2 * (tlE g q + tlE g q2 + 1) := (by omega)
        have hz152 : dp ≤ dp ∧ dp ≤ 71 := (by omega)
        have hz153 : vr ≤ vr ∧ vr ≤ 30 ∧ hd + vr = hd + vr := (by omega)
        have hz154 : AsO as75 := hao123.1
        have hz155 : VrS B (updA (updA (updA (updA B73 16 (upd ((B73 16)) cs74 18)) 17 (upd ((B73 17)) cs74 (nI n18))) 18 (upd ((B73 18)) cs74 0)) 19 (upd ((B73 19)) cs74 (nI hd))) vr := hvs122
        have hz156 : cs < (cs74 + 1) := (by omega)
        have hz157 : EnV ((updA (updA (updA (updA B73 16 (upd ((B73 16)) cs74 18)) 17 (upd ((B73 17)) cs74 (nI n18))) 18 (upd ((B73 18)) cs74 0)) 19 (upd ((B73 19)) cs74 (nI hd))) 26) ((updA (updA (updA (updA B73 16 (upd ((B73 16)) cs74 18)) 17 (upd ((B73 17)) cs74 (nI n18))) 18 (upd ((B73 18)) cs74 0)) 19 (upd ((B73 19)) cs74 (nI hd))) 27) nd vr hd c0 sl := hen121
        have hz158 : StW pb.1 pb.2.1 pb.2.2.1 pb.2.2.2 Ag Ag142 Q9 Q9 pd pd m9 dp lw cs (cs74 + 1) as9 as75 hd hd sl sl gr gr ((updA (updA (updA (updA B73 16 (upd ((B73 16)) cs74 18)) 17 (upd ((B73 17)) cs74 (nI n18))) 18 (upd ((B73 18)) cs74 0)) 19 (upd ((B73 19)) cs74 (nI hd))) 16) ((updA (updA (updA (updA B73 16 (upd ((B73 16)) cs74 18)) 17 (upd ((B73 17)) cs74 (nI n18))) 18 (upd ((B73 18)) cs74 0)) 19 (upd ((B73 19)) cs74 (nI hd))) 17) ((updA (updA (updA (updA B73 16 (upd ((B73 16)) cs74 18)) 17 (upd ((B73 17)) cs74 (nI n18))) 18 (upd ((B73 18)) cs74 0)) 19 (upd ((B73 19)) cs74 (nI hd))) 18) ((updA (updA (updA (updA B73 16 (upd ((B73 16)) cs74 18)) 17 (upd ((B73 17)) cs74 (nI n18))) 18 (upd ((B73 18)) cs74 0)) 19 (upd ((B73 19)) cs74 (nI hd))) 19) [] := hst143
        have hz159 : hd = hd := rfl
        have hO : OKP G h0 a (upd (upd (upd (upd (upd (upd (upd (upd (upd (upd F 2 (nI sz)) 5 (nI (cs74 + 1))) 6 (nI rg)) 7 (nI hd)) 8 (nI dp)) 12 (nI vr)) 13 as75) 14 wt76) 15 wf77) 16 ls9) (updR (updR (updR R 2 (.ref pq)) 3 (.ref mq)) 4 (va_rf lp9)) Z (updA (updA (updA (updA B73 16 (upd ((B73 16)) cs74 18)) 17 (upd ((B73 17)) cs74 (nI n18))) 18 (upd ((B73 18)) cs74 0)) 19 (upd ((B73 19)) cs74 (nI hd))) J K72 w := hO.to rfl
        refine W.widen (k := 1) (n := 6) (by omega) (by omega) ?_
        have hzz1 : H.size ≤ s.heap.size + (0) := (by have z : 0 ≤ 0 := (by omega); omega)
        have hzz2 : hSl H ≤ hSl s.heap + (0) := (by have z : 0 ≤ 0 := (by omega); omega)
        exact W.vret hx hb hr (fun t99 ht99 hW99 => ⟨⟨_, (w, (K72, (updA (updA (updA (updA B73 16 (upd ((B73 16)) cs74 18)) 17 (upd ((B73 17)) cs74 (nI n18))) 18 (upd ((B73 18)) cs74 0)) 19 (upd ((B73 19)) cs74 (nI hd))), (cs74 + 1), as75, wt76, wf77, vr, hd, dp, Ag142, sl)), rfl, ⟨rfl, hz145, hz146, hz147, hz148, hz149, hz150, hz151, hz152, hz153, hz154, hz155, hz156, hz157, hz158, hz159, hO⟩, by rw [ht99]; exact hP, hD, by rw [ht99]; exact hzz1, by rw [ht99]; exact hzz2⟩, hS.F ht99⟩) hS.2.2 dX0_assign_170
      · subst c4
        refine lv_aload_n hx hb dX0_assign_129 rfl (lv_at hl 1 rfl) ?_
        refine lv_aload_n hx hb dX0_assign_130 rfl (lv_at hl 2 rfl) ?_
        have hO : OKP G h0 a (upd (upd (upd (upd (upd (upd (upd (upd (upd (upd (upd (upd (upd F 2 (nI sz)) 5 (nI cs)) 6 (nI rg)) 7 (nI hd)) 8 (nI dp)) 12 (nI vr)) 13 as9) 16 ls9) 2 (nI sz)) 5 (nI cs)) 7 (nI hd)) 12 (nI vr)) 13 as9) (updR (updR (updR (updR (updR R 2 (.ref pq)) 3 (.ref mq)) 4 (va_rf lp9)) 2 (.ref pq)) 3 (.ref mq)) Z B J K w := hO.to rfl
        obtain ⟨_, qr163, hqr164⟩ := hO.2.1 24 _ (sg_24 G h0 a _ _ _ _ _)
        refine pn_V0 (G := G) (As := [.ref q]) (rest := []) hx hb hml hown hq hE hX pX0_al hP hD hS hA hl.1 (Y_ownField l G h0 a (upd (upd (upd (upd (upd (upd (upd (upd F 2 (nI sz)) 5 (nI cs)) 6 (nI rg)) 7 (nI hd)) 8 (nI dp)) 12 (nI vr)) 13 as9) 16 ls9) (updR (updR (updR R 2 (.ref pq)) 3 (.ref mq)) 4 (va_rf lp9)) Z B J K w pq dr ml nd nm cp it s9 q mq cs vr sz n g rk pb Ag pd sl ([] : List Nat) m9 dp lw hd c0 as9 True (by omega) (BdE.wp BdE.rfl hwp) (BdE.pt BdE.rfl hwp hps) (BdE.rko BdE.rfl hrk) (by omega) (by omega) hng hmq hqT hqL (EkA.be BdE.rfl (BsR.rfl 7 (by decide) (by decide)) (BsR.rfl 11 (by decide) (by decide)) hek) (OwC.be BdE.rfl hmq hdr0 hcO) (NaB.be BdE.rfl BeF.rfl hwp hps.2.1 hdr0 (BsR.rfl 11 (by decide) (by decide)) hna) hen (fun _ => hst0.1) (by omega) (by show 0 + ndE g q ≤ 248; omega) hlfq hkd hO hl0) (gV pw_290 pw_291 pw_292 pw_63 pw_289) hV_X0_ownField qr163 0 hqr164 rfl rfl rfl (Nat.le_of_ble_eq_true rfl) dX0_assign_131 ⟨(by show 0 + 1 ≤ 1; omega), (by show 0 + 6 ≤ 6; omega)⟩ ⟨(by show (5 * n + 33) + 1 ≤ (5 * n + 36); omega), (by show 8 + (2 + 11) + (200 * n + 560) ≤ (200 * n + 660); omega)⟩ (fun v162 u160 H locs hw161 hP hD hS => ?_) (fun ux ce9 q9 H9 locs9 hux hP9 hD9 hS9 hce hcv hcl => pb_out ux (ThQ.up (Thx.same (Thx.same (Thx.same (Thx.same (Thx.same Thx.rfl rfl) rfl) rfl) rfl) rfl) (show RhX (updR (updR (updR R 2 (.ref pq)) 3 (.ref mq)) 4 (va_rf lp9)) (updR (updR (updR (updR (updR R 2 (.ref pq)) 3 (.ref mq)) 4 (va_rf lp9)) 2 (.ref pq)) 3 (.ref mq)) from fun k9 hk9 => by unfold updR; simp only [show ¬ k9 = 1 by omega, show ¬ k9 = 2 by omega, show ¬ k9 = 3 by omega, show ¬ k9 = 4 by omega, if_false]) hux) hnt hlocks hce hcv hcl hP9 hD9 hS9 (by show 0 + 1 ≤ 1; omega) (by show 0 + 6 ≤ 6; omega))
        obtain ⟨w, K165, B166, cs167, as168, wt169, wf170, t171, Ag172, n173⟩ := u160
        obtain ⟨hw161, h174, h175, h176, h177, h178, h179, h180, h181, h182, h183, h184, h185, h186, h187, hO⟩ := hw161
        have h174 : SmW B B166 cs := h174
        have h175 : BdE K K165 := h175
        have h176 : BeF K K165 := h176
        have h177 : BeL K K165 none := h177
        have h178 : BeI K K165 g q := h178
        have h179 : Bth B B166 := h179
        have h180 : BeR B B166 := h180
        have h181 : t171 < 128 := h181
        have h182 : cs ≤ cs167 ∧ cs167 + 1 ≤ cs + 2 * tlE g q := h182
        have h183 : AsE as9 as168 := h183
        have h184 : True → EvB pb B B166 Ag Ag172 pd m9 dp lw cs cs167 as9 as168 hd sl (c0 :: ([] : List Nat)) := h184
        have h185 : K165.2.1 5 q = nI n173 ∧ n173 < 5000 := h185
        have h186 : n173 < pb.2.1 c0 ∧ pb.2.2.1 c0 n173 = tyc t171 := h186
        have h187 : TyV nd t171 := h187
        obtain rfl : v162 = some (.int (nI t171)) := hw161
        have hf188 : K165.1 pq = 7 := (BdE.T h175 hp1 (by decide))
        have hf189 : K165.2.2.1 18 pq = some (a 1) := (BdE.C h175 (by rw [hp1]; decide) 18).trans hp2
        have hf190 : K165.2.2.1 14 pq = some dr := (BdE.C h175 (by rw [hp1]; decide) 14).trans hp3
        have hf191 : K165.1 dr = 8 := (BdE.T h175 hp4 (by decide))
        have hf192 : K165.2.2.1 15 pq = some ml := (BdE.C h175 (by rw [hp1]; decide) 15).trans hp5
        have hf193 : K165.1 ml = 5 := (BdE.T h175 hp6 (by decide))
        have hf194 : K165.2.1 24 pq = (nI nd) := (BdE.I h175 (by rw [hp1]; decide) (by decide) (by decide)).trans hp8
        have hf195 : K165.1 q = 1 := (BdE.T h175 hqT (by decide))
        have hf196 : K165.1 mq = 3 := (BdE.T h175 hmq (by decide))
        have hf197 : K165.2.1 10 mq = (nI rt) := (BdE.I h175 (by rw [hmq]; decide) (by decide) (by decide)).trans hrt
        have hf198 : K165.2.1 15 dO = (nI c0) := (BdE.I h175 (by rw [htO]; decide) (by decide) (by decide)).trans hnO
        have hf199 : K165.2.2.1 5 mq = some dO := (BdE.C h175 (by rw [hmq]; decide) 5).trans hdO
        have hf200 : K165.1 dO = 4 := (BdE.T h175 htO (by decide))
        have hf201 : K165.2.1 0 q = 5 := (BdE.I h175 (by rw [hqT]; decide) (by decide) (by decide)).trans hkd
        have hf202 : K165.2.1 1 q = tk := (BdE.I h175 (by rw [hqT]; decide) (by decide) (by decide)).trans htk
        have hf203 : K165.1 q2 = 1 := (BdE.T h175 ht1 (by decide))
        have hO : OKP G h0 a (upd (upd (upd (upd (upd (upd (upd (upd (upd (upd F 2 (nI sz)) 5 (nI cs167)) 6 (nI rg)) 7 (nI hd)) 8 (nI dp)) 12 (nI vr)) 13 as168) 14 wt169) 15 wf170) 16 ls9) (updR (updR (updR R 2 (.ref pq)) 3 (.ref mq)) 4 (va_rf lp9)) Z B166 J K165 w := hO.to rfl
        refine W.widen (k := 0) (n := 0) (by show 0 + 0 ≤ 0; omega) (by show 0 + 0 ≤ 0; omega) ?_
        refine W.eq (g2 := F0 m 134 ls [.int (nI t171)]) rfl ?_
        have hbe204 := BdE.trans BdE.rfl h175
        have hbb205 : Bth B B166 := Bth.trans (show Thx (upd (upd (upd (upd (upd (upd (upd (upd F 2 (nI sz)) 5 (nI cs)) 6 (nI rg)) 7 (nI hd)) 8 (nI dp)) 12 (nI vr)) 13 as9) 16 ls9) (upd (upd (upd (upd (upd (upd (upd (upd F 2 (nI sz)) 5 (nI cs)) 6 (nI rg)) 7 (nI hd)) 8 (nI dp)) 12 (nI vr)) 13 as9) 16 ls9) B B from Thx.rfl).2 h179
        have hng206 : Nng (B166 18) := h179.2 hng
        have hsw207 : ∀ x9 : Nat, x9 < cs → (B166 16) x9 = B 16 x9 := fun x9 hx9 => ((h174 x9 (by omega)).1).trans ((fun _ _ => rfl) x9 hx9)
        have hsw208 : ∀ x9 : Nat, x9 < cs → (B166 17) x9 = B 17 x9 := fun x9 hx9 => ((h174 x9 (by omega)).2.1).trans ((fun _ _ => rfl) x9 hx9)
        have hsw209 : ∀ x9 : Nat, x9 < cs → (B166 18) x9 = B 18 x9 := fun x9 hx9 => ((h174 x9 (by omega)).2.2.1).trans ((fun _ _ => rfl) x9 hx9)
        have hsw210 : ∀ x9 : Nat, x9 < cs → (B166 19) x9 = B 19 x9 := fun x9 hx9 => ((h174 x9 (by omega)).2.2.2).trans ((fun _ _ => rfl) x9 hx9)
        have hbf211 := BeF.trans BeF.rfl h176 BdE.rfl
        have hbl213 := BeL.trans BeL.rfl h177 BdE.rfl
        have hbr212 : BsR B B166 := BsR.trans BsR.rfl (BeR.bs h180)
        have hen214 : EnV (B166 26) (B166 27) nd vr hd c0 sl := EnV.of (h180 26 (by decide)) (h180 27 (by decide)) hen
        have hvs215 : VrS B B166 vr := fun i9 hi9 => ⟨(congrFun (h180 26 (by decide)) i9).trans (VrS.rfl i9 hi9).1, (congrFun (h180 27 (by decide)) i9).trans (VrS.rfl i9 hi9).2⟩
        have hao216 : AsO as168 := AsE.aso h183 hao
        have hst217 : StW pb.1 pb.2.1 pb.2.2.1 pb.2.2.2 Ag Ag172 Q9 Q9 pd pd m9 dp lw cs cs167 as9 as168 hd hd sl sl gr gr (B166 16) (B166 17) (B166 18) (B166 19) (c0 :: ([] : List Nat)) := StW.ev hst0 (h184 trivial)
        refine lv_goto (tgt := 142) hx hb dX0_assign_134 (by decide) ?_
        refine lv_istore (lv' := [(4, .int (nI t171)), (3, .int (-1)), (0, .ref (a 4)), (1, .ref q), (2, .ref q2)]) hx hb dX0_assign_142 hl (by decide) rfl (fun ls hl => ?_)
        refine lv_aload_n hx hb dX0_assign_144 rfl (lv_at hl 2 rfl) ?_
        refine lv_aload_n hx hb dX0_assign_145 rfl (lv_at hl 4 rfl) ?_
        refine lv_aload_n hx hb dX0_assign_146 rfl (lv_at hl 2 rfl) ?_
        refine lv_aload_n hx hb dX0_assign_147 rfl (lv_at hl 4 rfl) ?_
        have hO : OKP G h0 a (upd (upd (upd (upd (upd (upd (upd (upd (upd (upd (upd (upd (upd (upd (upd (upd (upd F 2 (nI sz)) 5 (nI cs)) 6 (nI rg)) 7 (nI hd)) 8 (nI dp)) 12 (nI vr)) 13 as9) 16 ls9) 5 (nI cs167)) 13 as168) 14 wt169) 15 wf170) 2 (nI sz)) 5 (nI cs167)) 7 (nI hd)) 12 (nI vr)) 13 as168) (updR (updR (updR (updR (updR R 2 (.ref pq)) 3 (.ref mq)) 4 (va_rf lp9)) 2 (.ref pq)) 3 (.ref mq)) Z B166 J K165 w := hO.to rfl
        obtain ⟨_, qr221, hqr222⟩ := hO.2.1 24 _ (sg_24 G h0 a _ _ _ _ _)
        refine pn_V0 (G := G) (As := [.ref q2]) (rest := [.ref q2, .ref (a 4)]) hx hb hml hown hq hE hX pX0_al hP hD hS hA hl.1 ((PY_all l G (n - 1)) h0 a (upd (upd (upd (upd (upd (upd (upd (upd (upd (upd (upd (upd F 2 (nI sz)) 5 (nI cs)) 6 (nI rg)) 7 (nI hd)) 8 (nI dp)) 12 (nI vr)) 13 as9) 16 ls9) 5 (nI cs167)) 13 as168) 14 wt169) 15 wf170) (updR (updR (updR R 2 (.ref pq)) 3 (.ref mq)) 4 (va_rf lp9)) Z B166 J K165 w pq dr ml nd nm cp it s9 q2 mq cs167 vr sz g rk pb Ag172 pd sl (c0 :: ([] : List Nat)) m9 dp lw hd c0 as168 True (by omega) (BdE.wp hbe204 hwp) (BdE.pt hbe204 hwp hps) (BdE.rko hbe204 hrk) (by omega) (by omega) hng206 hf196 hf203 ⟨hv1.1, (by have z9 := hv1; omega)⟩ (EkA.be hbe204 (hbr212 7 (by decide) (by decide)) (hbr212 11 (by decide) (by decide)) hek) (OwC.be hbe204 hmq hdr0 hcO) (NaB.be hbe204 hbf211 hwp hps.2.1 hdr0 (hbr212 11 (by decide) (by decide)) hna) hen214 (fun _ => hst217.1) (by omega) (by show 1 + ndE g q2 ≤ 248; omega) hlf1 hO hl0) (gV pw_173 pw_174 pw_175 pw_63 pw_224) hV_X0_value qr221 0 hqr222 rfl rfl rfl (Nat.le_of_ble_eq_true rfl) dX0_assign_148 ⟨(by show 0 + 1 ≤ 1; omega), (by show 0 + 6 ≤ 6; omega)⟩ ⟨(by show (5 * (n - 1) + 34) + 1 ≤ (5 * n + 36); omega), (by show 8 + (3 + 11) + (200 * (n - 1) + 600) ≤ (200 * n + 660); omega)⟩ (fun v220 u218 H locs hw219 hP hD hS => ?_) (fun ux ce9 q9 H9 locs9 hux hP9 hD9 hS9 hce hcv hcl => pb_out ux (ThQ.up (Thx.same (Thx.same (Thx.same (Thx.same (Thx.same (Thx.f (Thx.f (Thx.f (Thx.f (Bth.thx hbb205) (by omega)) (by omega)) (by omega)) (by omega)) rfl) rfl) rfl) rfl) rfl) (show RhX (updR (updR (updR R 2 (.ref pq)) 3 (.ref mq)) 4 (va_rf lp9)) (updR (updR (updR (updR (updR R 2 (.ref pq)) 3 (.ref mq)) 4 (va_rf lp9)) 2 (.ref pq)) 3 (.ref mq)) from fun k9 hk9 => by unfold updR; simp only [show ¬ k9 = 1 by omega, show ¬ k9 = 2 by omega, show ¬ k9 = 3 by omega, show ¬ k9 = 4 by omega, if_false]) hux) hnt hlocks hce hcv hcl hP9 hD9 hS9 (by show 0 + 1 ≤ 1; omega) (by show 0 + 6 ≤ 6; omega))
        obtain ⟨w, K223, B224, cs225, as226, wt227, wf228, t229, Ag230, u231⟩ := u218
        obtain ⟨hw219, h232, h233, h234, h235, h236, h237, h238, h239, h240, h241, h242, h243, hO⟩ := hw219
        have h232 : SmW B166 B224 cs167 := h232
        have h233 : BdE K165 K223 := h233
        have h234 : BeF K165 K223 := h234
        have h235 : BeL K165 K223 none := h235
        have h236 : BeI K165 K223 g q2 := h236
        have h237 : Bth B166 B224 := h237
        have h238 : BeR B166 B224 := h238
        have h239 : t229 < 128 := h239
        have h240 : cs167 ≤ cs225 ∧ cs225 + 0 ≤ cs167 + 2 * tlE g q2 := h240
        have h241 : AsE as168 as226 ∧ AsE as168 wt227 ∧ AsE as168 wf228 := h241
        have h242 : True → VaQ pb B166 B224 Ag172 Ag230 pd m9 dp lw cs167 cs225 as168 as226 wt227 wf228 hd sl (c0 :: ([] : List Nat)) t229 u231 (K165.2.1 0 q2) := h242
        have h243 : CaK (K165.2.1 0 q2) → cs225 + 2 ≤ cs167 + 2 * tlE g q2 := h243
        obtain rfl : v220 = some (.int (nI t229)) := hw219
        have hf244 : K223.1 pq = 7 := (BdE.T h233 hf188 (by decide))
        have hf245 : K223.2.2.1 18 pq = some (a 1) := (BdE.C h233 (by rw [hf188]; decide) 18).trans hf189
        have hf246 : K223.2.2.1 14 pq = some dr := (BdE.C h233 (by rw [hf188]; decide) 14).trans hf190
        have hf247 : K223.1 dr = 8 := (BdE.T h233 hf191 (by decide))
        have hf248 : K223.2.2.1 15 pq = some ml := (BdE.C h233 (by rw [hf188]; decide) 15).trans hf192
        have hf249 : K223.1 ml = 5 := (BdE.T h233 hf193 (by decide))
        have hf250 : K223.2.1 24 pq = (nI nd) := (BdE.I h233 (by rw [hf188]; decide) (by decide) (by decide)).trans hf194
        have hf251 : K223.1 q = 1 := (BdE.T h233 hf195 (by decide))
        have hf252 : K223.1 mq = 3 := (BdE.T h233 hf196 (by decide))
        have hf253 : K223.2.1 10 mq = (nI rt) := (BdE.I h233 (by rw [hf196]; decide) (by decide) (by decide)).trans hf197
        have hf254 : K223.2.1 15 dO = (nI c0) := (BdE.I h233 (by rw [hf200]; decide) (by decide) (by decide)).trans hf198
        have hf255 : K223.2.2.1 5 mq = some dO := (BdE.C h233 (by rw [hf196]; decide) 5).trans hf199
        have hf256 : K223.1 dO = 4 := (BdE.T h233 hf200 (by decide))
        have hf257 : K223.2.1 0 q = 5 := (BdE.I h233 (by rw [hf195]; decide) (by decide) (by decide)).trans hf201
        have hf258 : K223.2.1 1 q = tk := (BdE.I h233 (by rw [hf195]; decide) (by decide) (by decide)).trans hf202
        have hf259 : K223.1 q2 = 1 := (BdE.T h233 hf203 (by decide))
        have hO : OKP G h0 a (upd (upd (upd (upd (upd (upd (upd (upd (upd (upd F 2 (nI sz)) 5 (nI cs225)) 6 (nI rg)) 7 (nI hd)) 8 (nI dp)) 12 (nI vr)) 13 as226) 14 wt227) 15 wf228) 16 ls9) (updR (updR (updR R 2 (.ref pq)) 3 (.ref mq)) 4 (va_rf lp9)) Z B224 J K223 w := hO.to rfl
        refine W.widen (k := 0) (n := 0) (by show 0 + 0 ≤ 0; omega) (by show 0 + 0 ≤ 0; omega) ?_
        refine W.eq (g2 := F0 m 151 ls [.int (nI t229), .ref q2, .ref (a 4)]) rfl ?_
        have hbe260 := BdE.trans hbe204 h233
        have hbb261 : Bth B B224 := Bth.trans (show Thx (upd (upd (upd (upd (upd (upd (upd (upd F 2 (nI sz)) 5 (nI cs)) 6 (nI rg)) 7 (nI hd)) 8 (nI dp)) 12 (nI vr)) 13 as9) 16 ls9) (upd (upd (upd (upd (upd (upd (upd (upd (upd (upd (upd (upd F 2 (nI sz)) 5 (nI cs)) 6 (nI rg)) 7 (nI hd)) 8 (nI dp)) 12 (nI vr)) 13 as9) 16 ls9) 5 (nI cs167)) 13 as168) 14 wt169) 15 wf170) B B166 from (Thx.f (Thx.f (Thx.f (Thx.f (Bth.thx hbb205) (by omega)) (by omega)) (by omega)) (by omega))).2 h237
        have hng262 : Nng (B224 18) := h237.2 hng206
        have hsw263 : ∀ x9 : Nat, x9 < cs → (B224 16) x9 = B 16 x9 := fun x9 hx9 => ((h232 x9 (by omega)).1).trans (hsw207 x9 hx9)
        have hsw264 : ∀ x9 : Nat, x9 < cs → (B224 17) x9 = B 17 x9 := fun x9 hx9 => ((h232 x9 (by omega)).2.1).trans (hsw208 x9 hx9)
        have hsw265 : ∀ x9 : Nat, x9 < cs → (B224 18) x9 = B 18 x9 := fun x9 hx9 => ((h232 x9 (by omega)).2.2.1).trans (hsw209 x9 hx9)
        have hsw266 : ∀ x9 : Nat, x9 < cs → (B224 19) x9 = B 19 x9 := fun x9 hx9 => ((h232 x9 (by omega)).2.2.2).trans (hsw210 x9 hx9)
        have hbf267 := BeF.trans hbf211 h234 hbe204
        have hbl269 := BeL.trans hbl213 h235 hbe204
        have hbr268 : BsR B B224 := BsR.trans hbr212 (BeR.bs h238)
        have hen270 : EnV (B224 26) (B224 27) nd vr hd c0 sl := EnV.of (h238 26 (by decide)) (h238 27 (by decide)) hen214
        have hvs271 : VrS B B224 vr := fun i9 hi9 => ⟨(congrFun (h238 26 (by decide)) i9).trans (hvs215 i9 hi9).1, (congrFun (h238 27 (by decide)) i9).trans (hvs215 i9 hi9).2⟩
        have hao272 : AsO as226 ∧ AsO wt227 ∧ AsO wf228 := ⟨AsE.aso h241.1 hao216, AsE.aso h241.2.1 hao216, AsE.aso h241.2.2 hao216⟩
        have hf273 : K223.2.1 5 q = (nI n173) := (h236 q hf195 hout).trans h185.1
        refine lv_iload hx hb dX0_assign_151 (lv_at hl 0 rfl) ?_
        have hO : OKP G h0 a (upd (upd (upd (upd (upd (upd (upd (upd (upd (upd (upd (upd (upd F 2 (nI sz)) 5 (nI cs)) 6 (nI rg)) 7 (nI hd)) 8 (nI dp)) 12 (nI vr)) 13 as9) 16 ls9) 5 (nI cs225)) 13 as226) 14 wt227) 15 wf228) 2 (nI sz)) (updR (updR (updR (updR R 2 (.ref pq)) 3 (.ref mq)) 4 (va_rf lp9)) 2 (.ref pq)) Z B224 J K223 w := hO.to rfl
        obtain ⟨_, qr277, hqr278⟩ := hO.2.1 24 _ (sg_24 G h0 a _ _ _ _ _)
        refine pn_V0 (G := G) (As := [.ref q2, .int (nI t229), .int (nI t171)]) (rest := []) hx hb hml hown hq hE hX pX0_al hP hD hS hA hl.1 (Y_fit l G h0 a (upd (upd (upd (upd (upd (upd (upd (upd (upd (upd (upd (upd F 2 (nI sz)) 5 (nI cs)) 6 (nI rg)) 7 (nI hd)) 8 (nI dp)) 12 (nI vr)) 13 as9) 16 ls9) 5 (nI cs225)) 13 as226) 14 wt227) 15 wf228) (updR (updR (updR R 2 (.ref pq)) 3 (.ref mq)) 4 (va_rf lp9)) Z B224 J K223 w pq dr ml nd q2 sz t229 t171 g pb (by omega) (BdE.pt hbe260 hwp hps).1 (BdE.pt hbe260 hwp hps).2.1 hf259 (by omega) hna.1.1 (NaB.be hbe260 hbf267 hwp hps.2.1 hdr0 (hbr268 11 (by decide) (by decide)) hna).1.2.2 hO hl0) (gV pw_176 pw_177 pw_178 pw_63 pw_114) hV_X0_fit qr277 0 hqr278 rfl rfl rfl (Nat.le_of_ble_eq_true rfl) dX0_assign_153 ⟨(by show 0 + 1 ≤ 1; omega), (by show 0 + 6 ≤ 6; omega)⟩ ⟨(by show 7 + 1 ≤ (5 * n + 36); omega), (by show 8 + (4 + 11) + 122 ≤ (200 * n + 660); omega)⟩ (fun v276 u274 H locs hw275 hP hD hS => ?_) (fun ux ce9 q9 H9 locs9 hux hP9 hD9 hS9 hce hcv hcl => pb_out ux (ThQ.up (Thx.same (Thx.f (Thx.f (Thx.f (Thx.f (Bth.thx hbb261) (by omega)) (by omega)) (by omega)) (by omega)) rfl) (show RhX (updR (updR (updR R 2 (.ref pq)) 3 (.ref mq)) 4 (va_rf lp9)) (updR (updR (updR (updR R 2 (.ref pq)) 3 (.ref mq)) 4 (va_rf lp9)) 2 (.ref pq)) from fun k9 hk9 => by unfold updR; simp only [show ¬ k9 = 1 by omega, show ¬ k9 = 2 by omega, show ¬ k9 = 3 by omega, show ¬ k9 = 4 by omega, if_false]) hux) hnt hlocks hce hcv hcl hP9 hD9 hS9 (by show 0 + 1 ≤ 1; omega) (by show 0 + 6 ≤ 6; omega))
        obtain ⟨w, _⟩ := u274
        obtain ⟨hw275, h279, hO⟩ := hw275
        have h279 : FtQ pb t229 t171 := h279
        obtain rfl : v276 = none := hw275
        have hO : OKP G h0 a (upd (upd (upd (upd (upd (upd (upd (upd (upd (upd F 2 (nI sz)) 5 (nI cs225)) 6 (nI rg)) 7 (nI hd)) 8 (nI dp)) 12 (nI vr)) 13 as226) 14 wt227) 15 wf228) 16 ls9) (updR (updR (updR R 2 (.ref pq)) 3 (.ref mq)) 4 (va_rf lp9)) Z B224 J K223 w := hO.to rfl
        refine W.widen (k := 0) (n := 0) (by show 0 + 0 ≤ 0; omega) (by show 0 + 0 ≤ 0; omega) ?_
        refine W.eq (g2 := F0 m 156 ls []) rfl ?_
        have hst280 : StW pb.1 pb.2.1 pb.2.2.1 pb.2.2.2 Ag Ag230 Q9 Q9 pd pd m9 dp lw cs cs225 as9 as226 hd hd sl sl gr gr (B224 16) (B224 17) (B224 18) (B224 19) (u231 :: (c0 :: ([] : List Nat))) := StW.ev hst217 (VaQ.ev (h242 trivial) h239 h279.1)
        have hut281 : UTb u231 (nI t229) as226 wt227 wf228 := VaQ.ut (h242 trivial) h279.1
        refine lv_aload_n hx hb dX0_assign_156 rfl (lv_at hl 2 rfl) ?_
        refine c_get (v := .ref (a 2)) (C := RX0) (Tc := TX0) (N := 13) (ci := 0) hx hb hq pin_wsX00 hown hE hP hO 24 (sg_24 G h0 a _ _ _ _ _) rfl 1 (by decide) (hq _ pw_5) (fun _ h9 => h9) rfl dX0_assign_157 ?_
        refine lv_bipush (v := 18) hx hb dX0_assign_160 (by decide) ?_
        refine lv_aload_n hx hb dX0_assign_162 rfl (lv_at hl 3 rfl) ?_
        refine p_get (v := .int (nI n173)) (C := RX7) (Tc := TX7) (N := 11) (ci := 13) hx hb hq pin_wsX70 hown hE hP hO (by rw [hf251]; decide) (rep_1 hf251) rfl 5 (by decide) (hq _ pw_142) (fun _ h9 => h9) (congrArg (fun z => some (Value.int z)) hf273) dX0_assign_163 ?_
        refine lv_iconst (v := 0) hx hb dX0_assign_166 (by decide) ?_
        have hO : OKW G h0 a (upd (upd (upd (upd (upd (upd (upd (upd (upd (upd (upd (upd F 2 (nI sz)) 5 (nI cs225)) 6 (nI rg)) 7 (nI hd)) 8 (nI dp)) 12 (nI vr)) 13 as226) 14 wt227) 15 wf228) 16 ls9) 5 (nI cs225)) 7 (nI hd)) (updR (updR (updR R 2 (.ref pq)) 3 (.ref mq)) 4 (va_rf lp9)) Z B224 J K223.1 (fun q99 x99 => x99 = rep G a K223 q99) w := hO.to rfl
        obtain ⟨_, qr285, hqr286⟩ := hO.2.1 13 _ (sg_13 G h0 a _ _ _ _ _)
        refine pc_V0 (G := G) (As := [.int 18, .int (nI n173), .int 0]) (rest := []) hx hb hml hown hq hE hX pX0_al hP hD hS hA hl.1 (Y_emit l G h0 a (upd (upd (upd (upd (upd (upd (upd (upd (upd (upd F 2 (nI sz)) 5 (nI cs225)) 6 (nI rg)) 7 (nI hd)) 8 (nI dp)) 12 (nI vr)) 13 as226) 14 wt227) 15 wf228) 16 ls9) (updR (updR (updR R 2 (.ref pq)) 3 (.ref mq)) 4 (va_rf lp9)) Z B224 J K223.1 (fun q99 x99 => x99 = rep G a K223 q99) w 18 (nI n173) 0 cs225 hd (by omega) hO) (gV pw_129 pw_130 pw_131 pw_70 pw_115) hV_X1_emit qr285 1 hqr286 rfl rfl rfl (Nat.le_of_ble_eq_true rfl) dX0_assign_167 ⟨(by show 0 + 0 ≤ 1; omega), (by show 0 + 0 ≤ 6; omega)⟩ ⟨(by show 2 + 1 ≤ (5 * n + 36); omega), (by show 8 + (4 + 11) + 60 ≤ (200 * n + 660); omega)⟩ (fun v284 u282 H locs hw283 hP hD hS => ?_)
        obtain ⟨w, _⟩ := u282
        obtain ⟨hw283, hO⟩ := hw283
        obtain rfl : v284 = none := hw283
        have hO : OKP G h0 a (upd (upd (upd (upd (upd (upd (upd (upd (upd (upd F 2 (nI sz)) 5 (nI (cs225 + 1))) 6 (nI rg)) 7 (nI hd)) 8 (nI dp)) 12 (nI vr)) 13 as226) 14 wt227) 15 wf228) 16 ls9) (updR (updR (updR R 2 (.ref pq)) 3 (.ref mq)) 4 (va_rf lp9)) Z (updA (updA (updA (updA B224 16 (upd ((B224 16)) cs225 18)) 17 (upd ((B224 17)) cs225 (nI n173))) 18 (upd ((B224 18)) cs225 0)) 19 (upd ((B224 19)) cs225 (nI hd))) J K223 w := hO.to rfl
        refine W.widen (k := 0) (n := 0) (Nat.le_of_ble_eq_true rfl) (Nat.le_of_ble_eq_true rfl) ?_
        refine W.eq (g2 := F0 m 170 ls []) rfl ?_
        have hsw287 : ∀ x9 : Nat, x9 < cs → (upd ((B224 16)) cs225 18) x9 = B 16 x9 := fun x9 hx9 => (if_neg (by omega)).trans (hsw263 x9 hx9)
        have hsw288 : ∀ x9 : Nat, x9 < cs → (upd ((B224 17)) cs225 (nI n173)) x9 = B 17 x9 := fun x9 hx9 => (if_neg (by omega)).trans (hsw264 x9 hx9)
        have hsw289 : ∀ x9 : Nat, x9 < cs → (upd ((B224 18)) cs225 0) x9 = B 18 x9 := fun x9 hx9 => (if_neg (by omega)).trans (hsw265 x9 hx9)
        have hsw290 : ∀ x9 : Nat, x9 < cs → (upd ((B224 19)) cs225 (nI hd)) x9 = B 19 x9 := fun x9 hx9 => (if_neg (by omega)).trans (hsw266 x9 hx9)
        obtain ⟨Ag291, hst292⟩ : ∃ A5 : Nat → AS, StW pb.1 pb.2.1 pb.2.2.1 pb.2.2.2 Ag A5 Q9 Q9 pd pd m9 dp lw cs (cs225 + 1) as9 as226 hd hd sl sl gr gr (upd ((B224 16)) cs225 18) (upd ((B224 17)) cs225 (nI n173)) (upd ((B224 18)) cs225 0) (upd ((B224 19)) cs225 (nI hd)) ([] : List Nat) := ⟨(upS Ag230 (cs225 + 1) (rcA as226, hd, sl, ([] : List Nat))), StW.putf hst280 (by have z9 := hna.1.1; have z8 := hen.1.2.2; omega) h186.1 (by rw [h186.2, tyc_ne h279.2.1]; exact UTb.tlf hut281 h239 h279)⟩
        have hng293 : Nng (upd ((B224 18)) cs225 0) := Nng.set hng262 (k := 0) (by omega)
        refine W_size (fun hz1 hz2 => ?_)
        refine vx_ret ?_
        have hz294 : SmW B (updA (updA (updA (updA B224 16 (upd ((B224 16)) cs225 18)) 17 (upd ((B224 17)) cs225 (nI n173))) 18 (upd ((B224 18)) cs225 0)) 19 (upd ((B224 19)) cs225 (nI hd))) cs := (fun x9 hx9 => ⟨hsw287 x9 hx9, hsw288 x9 hx9, hsw289 x9 hx9, hsw290 x9 hx9⟩)
        have hz295 : BdE K K223 := hbe260
        have hz296 : BeF K K223 := hbf267
        have hz297 : BeL K K223 none := hbl269
        have hz298 : Bth B (updA (updA (updA (updA B224 16 (upd ((B224 16)) cs225 18)) 17 (upd ((B224 17)) cs225 (nI n173))) 18 (upd ((B224 18)) cs225 0)) 19 (upd ((B224 19)) cs225 (nI hd))) := (show Thx (upd (upd (upd (upd (upd (upd (upd (upd F 2 (nI sz)) 5 (nI cs)) 6 (nI rg)) 7 (nI hd)) 8 (nI dp)) 12 (nI vr)) 13 as9) 16 ls9) (upd (upd (upd (upd (upd (upd (upd (upd (upd (upd (upd (upd F 2 (nI sz)) 5 (nI cs)) 6 (nI rg)) 7 (nI hd)) 8 (nI dp)) 12 (nI vr)) 13 as9) 16 ls9) 5 (nI (cs225 + 1))) 13 as226) 14 wt227) 15 wf228) B (updA (updA (updA (updA B224 16 (upd ((B224 16)) cs225 18)) 17 (upd ((B224 17)) cs225 (nI n173))) 18 (upd ((B224 18)) cs225 0)) 19 (upd ((B224 19)) cs225 (nI hd))) from (Thx.b (Thx.b8 (Thx.b (Thx.b (Thx.f (Thx.f (Thx.f (Thx.f (Bth.thx hbb261) (by omega)) (by omega)) (by omega)) (by omega)) (by omega) (by decide)) (by omega) (by decide)) hng293) (by omega) (by decide))).2
        have hz299 : BsR B (updA (updA (updA (updA B224 16 (upd ((B224 16)) cs225 18)) 17 (upd ((B224 17)) cs225 (nI n173))) 18 (upd ((B224 18)) cs225 0)) 19 (upd ((B224 19)) cs225 (nI hd))) := (BsR.up (BsR.up (BsR.up (BsR.up hbr268 (by omega)) (by omega)) (by omega)) (by omega))
        have hz300 : cs ≤ (cs225 + 1) ∧ (cs225 + 1) + 1 ≤ cs + 2 * (tlE g q + tlE g q2 + 1) := (by omega)
        have hz301 : dp ≤ dp ∧ dp ≤ 71 := (by omega)
        have hz302 : vr ≤ vr ∧ vr ≤ 30 ∧ hd + vr = hd + vr := (by omega)
        have hz303 : AsO as226 := hao272.1
        have hz304 : VrS B (updA (updA (updA (updA B224 16 (upd ((B224 16)) cs225 18)) 17 (upd ((B224 17)) cs225 (nI n173))) 18 (upd ((B224 18)) cs225 0)) 19 (upd ((B224 19)) cs225 (nI hd))) vr := hvs271
        have hz305 : cs < (cs225 + 1) := (by omega)
        have hz306 : EnV ((updA (updA (updA (updA B224 16 (upd ((B224 16)) cs225 18)) 17 (upd ((B224 17)) cs225 (nI n173))) 18 (upd ((B224 18)) cs225 0)) 19 (upd ((B224 19)) cs225 (nI hd))) 26) ((updA (updA (updA (updA B224 16 (upd ((B224 16)) cs225 18)) 17 (upd ((B224 17)) cs225 (nI n173))) 18 (upd ((B224 18)) cs225 0)) 19 (upd ((B224 19)) cs225 (nI hd))) 27) nd vr hd c0 sl := hen270
        have hz307 : StW pb.1 pb.2.1 pb.2.2.1 pb.2.2.2 Ag Ag291 Q9 Q9 pd pd m9 dp lw cs (cs225 + 1) as9 as226 hd hd sl sl gr gr ((updA (updA (updA (updA B224 16 (upd ((B224 16)) cs225 18)) 17 (upd ((B224 17)) cs225 (nI n173))) 18 (upd ((B224 18)) cs225 0)) 19 (upd ((B224 19)) cs225 (nI hd))) 16) ((updA (updA (updA (updA B224 16 (upd ((B224 16)) cs225 18)) 17 (upd ((B224 17)) cs225 (nI n173))) 18 (upd ((B224 18)) cs225 0)) 19 (upd ((B224 19)) cs225 (nI hd))) 17) ((updA (updA (updA (updA B224 16 (upd ((B224 16)) cs225 18)) 17 (upd ((B224 17)) cs225 (nI n173))) 18 (upd ((B224 18)) cs225 0)) 19 (upd ((B224 19)) cs225 (nI hd))) 18) ((updA (updA (updA (updA B224 16 (upd ((B224 16)) cs225 18)) 17 (upd ((B224 17)) cs225 (nI n173))) 18 (upd ((B224 18)) cs225 0)) 19 (upd ((B224 19)) cs225 (nI hd))) 19) [] := hst292
        have hz308 : hd = hd := rfl
        have hO : OKP G h0 a (upd (upd (upd (upd (upd (upd (upd (upd (upd (upd F 2 (nI sz)) 5 (nI (cs225 + 1))) 6 (nI rg)) 7 (nI hd)) 8 (nI dp)) 12 (nI vr)) 13 as226) 14 wt227) 15 wf228) 16 ls9) (updR (updR (updR R 2 (.ref pq)) 3 (.ref mq)) 4 (va_rf lp9)) Z (updA (updA (updA (updA B224 16 (upd ((B224 16)) cs225 18)) 17 (upd ((B224 17)) cs225 (nI n173))) 18 (upd ((B224 18)) cs225 0)) 19 (upd ((B224 19)) cs225 (nI hd))) J K223 w := hO.to rfl
        refine W.widen (k := 1) (n := 6) (by omega) (by omega) ?_
        have hzz1 : H.size ≤ s.heap.size + (0) := (by have z : 0 ≤ 0 := (by omega); omega)
        have hzz2 : hSl H ≤ hSl s.heap + (0) := (by have z : 0 ≤ 0 := (by omega); omega)
        exact W.vret hx hb hr (fun t99 ht99 hW99 => ⟨⟨_, (w, (K223, (updA (updA (updA (updA B224 16 (upd ((B224 16)) cs225 18)) 17 (upd ((B224 17)) cs225 (nI n173))) 18 (upd ((B224 18)) cs225 0)) 19 (upd ((B224 19)) cs225 (nI hd))), (cs225 + 1), as226, wt227, wf228, vr, hd, dp, Ag291, sl)), rfl, ⟨rfl, hz294, hz295, hz296, hz297, hz298, hz299, hz300, hz301, hz302, hz303, hz304, hz305, hz306, hz307, hz308, hO⟩, by rw [ht99]; exact hP, hD, by rw [ht99]; exact hzz1, by rw [ht99]; exact hzz2⟩, hS.F ht99⟩) hS.2.2 dX0_assign_170
    · subst c3
      obtain ⟨z1, hc0, hy0, hw0⟩ := NdO.ch (hwp.1 q hqT hqL.1) (f := 0) (by decide) (((hwp.1 q hqT hqL.1).1.2.1 (by rw [hkd]; decide)).1)
      have hz0 : 1 ≤ g 0 z1 ∧ g 0 z1 + 1 ≤ n := ⟨hw0.1, (by have z := hw0.2; omega)⟩
      obtain ⟨z2, hc1, hy1, hw1⟩ := NdO.ch (hwp.1 q hqT hqL.1) (f := 1) (by decide) (((hwp.1 q hqT hqL.1).1.2.1 (by rw [hkd]; decide)).2)
      have hz1 : 1 ≤ g 0 z2 ∧ g 0 z2 + 1 ≤ n := ⟨hw1.1, (by have z := hw1.2; omega)⟩
      obtain ⟨hlfa, hlfb, htla, hnda, hndb, hina, hinb⟩ := hek9.2.1 (by rw [hkd]; decide) z1 z2 hc0 hc1
      refine lv_aload_n hx hb dX0_assign_88 rfl (lv_at hl 1 rfl) ?_
      refine lv_aload_n hx hb dX0_assign_89 rfl (lv_at hl 2 rfl) ?_
      have hO : OKP G h0 a (upd (upd (upd (upd (upd (upd (upd (upd (upd (upd (upd (upd (upd F 2 (nI sz)) 5 (nI cs)) 6 (nI rg)) 7 (nI hd)) 8 (nI dp)) 12 (nI vr)) 13 as9) 16 ls9) 2 (nI sz)) 5 (nI cs)) 7 (nI hd)) 12 (nI vr)) 13 as9) (updR (updR (updR (updR (updR R 2 (.ref pq)) 3 (.ref mq)) 4 (va_rf lp9)) 2 (.ref pq)) 3 (.ref mq)) Z B J K w := hO.to rfl
      obtain ⟨_, qr312, hqr313⟩ := hO.2.1 24 _ (sg_24 G h0 a _ _ _ _ _)
      refine pn_V0 (G := G) (As := [.ref q]) (rest := []) hx hb hml hown hq hE hX pX0_al hP hD hS hA hl.1 (Y_element l G h0 a (upd (upd (upd (upd (upd (upd (upd (upd F 2 (nI sz)) 5 (nI cs)) 6 (nI rg)) 7 (nI hd)) 8 (nI dp)) 12 (nI vr)) 13 as9) 16 ls9) (updR (updR (updR R 2 (.ref pq)) 3 (.ref mq)) 4 (va_rf lp9)) Z B J K w pq dr ml nd nm cp it s9 q mq cs vr sz n z1 z2 g rk pb Ag pd sl ([] : List Nat) m9 dp lw hd c0 as9 True (by omega) (BdE.wp BdE.rfl hwp) (BdE.pt BdE.rfl hwp hps) (BdE.rko BdE.rfl hrk) (by omega) (by omega) hng hmq hqT hqL (EkA.be BdE.rfl (BsR.rfl 7 (by decide) (by decide)) (BsR.rfl 11 (by decide) (by decide)) hek) (OwC.be BdE.rfl hmq hdr0 hcO) (NaB.be BdE.rfl BeF.rfl hwp hps.2.1 hdr0 (BsR.rfl 11 (by decide) (by decide)) hna) hen (fun _ => hst0.1) (by omega) (by show 0 + ndE g q ≤ 248; omega) hlfq hc0 hy0 hz0 hlfa hina hc1 hy1 hz1 hlfb hinb htla hnda hndb (IhY.all l G _) hO hl0) (gV pw_249 pw_250 pw_251 pw_63 pw_206) hV_X0_element qr312 0 hqr313 rfl rfl rfl (Nat.le_of_ble_eq_true rfl) dX0_assign_90 ⟨(by show 0 + 1 ≤ 1; omega), (by show 0 + 6 ≤ 6; omega)⟩ ⟨(by show (5 * n + 33) + 1 ≤ (5 * n + 36); omega), (by show 8 + (3 + 11) + (200 * n + 560) ≤ (200 * n + 660); omega)⟩ (fun v311 u309 H locs hw310 hP hD hS => ?_) (fun ux ce9 q9 H9 locs9 hux hP9 hD9 hS9 hce hcv hcl => pb_out ux (ThQ.up (Thx.same (Thx.same (Thx.same (Thx.same (Thx.same Thx.rfl rfl) rfl) rfl) rfl) rfl) (show RhX (updR (updR (updR R 2 (.ref pq)) 3 (.ref mq)) 4 (va_rf lp9)) (updR (updR (updR (updR (updR R 2 (.ref pq)) 3 (.ref mq)) 4 (va_rf lp9)) 2 (.ref pq)) 3 (.ref mq)) from fun k9 hk9 => by unfold updR; simp only [show ¬ k9 = 1 by omega, show ¬ k9 = 2 by omega, show ¬ k9 = 3 by omega, show ¬ k9 = 4 by omega, if_false]) hux) hnt hlocks hce hcv hcl hP9 hD9 hS9 (by show 0 + 1 ≤ 1; omega) (by show 0 + 6 ≤ 6; omega))
      obtain ⟨w, K314, B315, cs316, as317, wt318, wf319, t320, Ag321, u322⟩ := u309
      obtain ⟨hw310, h323, h324, h325, h326, h327, h328, h329, h330, h331, h332, h333, h334, hO⟩ := hw310
      have h323 : SmW B B315 cs := h323
      have h324 : BdE K K314 := h324
      have h325 : BeF K K314 := h325
      have h326 : BeL K K314 none := h326
      have h327 : BeI K K314 g q := h327
      have h328 : Bth B B315 := h328
      have h329 : BeR B B315 := h329
      have h330 : t320 < 128 := h330
      have h331 : cs ≤ cs316 ∧ cs316 + 2 ≤ cs + 2 * tlE g q := h331
      have h332 : AsE as9 as317 := h332
      have h333 : True → EvB pb B B315 Ag Ag321 pd m9 dp lw cs cs316 as9 as317 hd sl (u322 :: (t320 + 64) :: ([] : List Nat)) := h333
      have h334 : t320 < 64 := h334
      obtain rfl : v311 = some (.int (nI t320)) := hw310
      have hf335 : K314.1 pq = 7 := (BdE.T h324 hp1 (by decide))
      have hf336 : K314.2.2.1 18 pq = some (a 1) := (BdE.C h324 (by rw [hp1]; decide) 18).trans hp2
      have hf337 : K314.2.2.1 14 pq = some dr := (BdE.C h324 (by rw [hp1]; decide) 14).trans hp3
      have hf338 : K314.1 dr = 8 := (BdE.T h324 hp4 (by decide))
      have hf339 : K314.2.2.1 15 pq = some ml := (BdE.C h324 (by rw [hp1]; decide) 15).trans hp5
      have hf340 : K314.1 ml = 5 := (BdE.T h324 hp6 (by decide))
      have hf341 : K314.2.1 24 pq = (nI nd) := (BdE.I h324 (by rw [hp1]; decide) (by decide) (by decide)).trans hp8
      have hf342 : K314.1 q = 1 := (BdE.T h324 hqT (by decide))
      have hf343 : K314.1 mq = 3 := (BdE.T h324 hmq (by decide))
      have hf344 : K314.2.1 10 mq = (nI rt) := (BdE.I h324 (by rw [hmq]; decide) (by decide) (by decide)).trans hrt
      have hf345 : K314.2.1 15 dO = (nI c0) := (BdE.I h324 (by rw [htO]; decide) (by decide) (by decide)).trans hnO
      have hf346 : K314.2.2.1 5 mq = some dO := (BdE.C h324 (by rw [hmq]; decide) 5).trans hdO
      have hf347 : K314.1 dO = 4 := (BdE.T h324 htO (by decide))
      have hf348 : K314.2.1 0 q = 14 := (BdE.I h324 (by rw [hqT]; decide) (by decide) (by decide)).trans hkd
      have hf349 : K314.2.1 1 q = tk := (BdE.I h324 (by rw [hqT]; decide) (by decide) (by decide)).trans htk
      have hf350 : K314.1 q2 = 1 := (BdE.T h324 ht1 (by decide))
      have hf351 : K314.2.2.1 0 q = some z1 := (BdE.C h324 (by rw [hqT]; decide) 0).trans hc0
      have hf352 : K314.1 z1 = 1 := (BdE.T h324 hy0 (by decide))
      have hf353 : K314.2.2.1 1 q = some z2 := (BdE.C h324 (by rw [hqT]; decide) 1).trans hc1
      have hf354 : K314.1 z2 = 1 := (BdE.T h324 hy1 (by decide))
      have hO : OKP G h0 a (upd (upd (upd (upd (upd (upd (upd (upd (upd (upd F 2 (nI sz)) 5 (nI cs316)) 6 (nI rg)) 7 (nI hd)) 8 (nI dp)) 12 (nI vr)) 13 as317) 14 wt318) 15 wf319) 16 ls9) (updR (updR (updR R 2 (.ref pq)) 3 (.ref mq)) 4 (va_rf lp9)) Z B315 J K314 w := hO.to rfl
      refine W.widen (k := 0) (n := 0) (by show 0 + 0 ≤ 0; omega) (by show 0 + 0 ≤ 0; omega) ?_
      refine W.eq (g2 := F0 m 93 ls [.int (nI t320)]) rfl ?_
      have hbe355 := BdE.trans BdE.rfl h324
      have hbb356 : Bth B B315 := Bth.trans (show Thx (upd (upd (upd (upd (upd (upd (upd (upd F 2 (nI sz)) 5 (nI cs)) 6 (nI rg)) 7 (nI hd)) 8 (nI dp)) 12 (nI vr)) 13 as9) 16 ls9) (upd (upd (upd (upd (upd (upd (upd (upd F 2 (nI sz)) 5 (nI cs)) 6 (nI rg)) 7 (nI hd)) 8 (nI dp)) 12 (nI vr)) 13 as9) 16 ls9) B B from Thx.rfl).2 h328
      have hng357 : Nng (B315 18) := h328.2 hng
      have hsw358 : ∀ x9 : Nat, x9 < cs → (B315 16) x9 = B 16 x9 := fun x9 hx9 => ((h323 x9 (by omega)).1).trans ((fun _ _ => rfl) x9 hx9)
      have hsw359 : ∀ x9 : Nat, x9 < cs → (B315 17) x9 = B 17 x9 := fun x9 hx9 => ((h323 x9 (by omega)).2.1).trans ((fun _ _ => rfl) x9 hx9)
      have hsw360 : ∀ x9 : Nat, x9 < cs → (B315 18) x9 = B 18 x9 := fun x9 hx9 => ((h323 x9 (by omega)).2.2.1).trans ((fun _ _ => rfl) x9 hx9)
      have hsw361 : ∀ x9 : Nat, x9 < cs → (B315 19) x9 = B 19 x9 := fun x9 hx9 => ((h323 x9 (by omega)).2.2.2).trans ((fun _ _ => rfl) x9 hx9)
      have hbf362 := BeF.trans BeF.rfl h325 BdE.rfl
      have hbl364 := BeL.trans BeL.rfl h326 BdE.rfl
      have hbr363 : BsR B B315 := BsR.trans BsR.rfl (BeR.bs h329)
      have hen365 : EnV (B315 26) (B315 27) nd vr hd c0 sl := EnV.of (h329 26 (by decide)) (h329 27 (by decide)) hen
      have hvs366 : VrS B B315 vr := fun i9 hi9 => ⟨(congrFun (h329 26 (by decide)) i9).trans (VrS.rfl i9 hi9).1, (congrFun (h329 27 (by decide)) i9).trans (VrS.rfl i9 hi9).2⟩
      have hao367 : AsO as317 := AsE.aso h332 hao
      have hst368 : StW pb.1 pb.2.1 pb.2.2.1 pb.2.2.2 Ag Ag321 Q9 Q9 pd pd m9 dp lw cs cs316 as9 as317 hd hd sl sl gr gr (B315 16) (B315 17) (B315 18) (B315 19) (u322 :: (t320 + 64) :: ([] : List Nat)) := StW.ev hst0 (h333 trivial)
      refine lv_istore (lv' := [(4, .int (nI t320)), (3, .int (-1)), (0, .ref (a 4)), (1, .ref q), (2, .ref q2)]) hx hb dX0_assign_93 hl (by decide) rfl (fun ls hl => ?_)
      refine lv_aload_n hx hb dX0_assign_95 rfl (lv_at hl 2 rfl) ?_
      refine lv_aload_n hx hb dX0_assign_96 rfl (lv_at hl 4 rfl) ?_
      refine lv_aload_n hx hb dX0_assign_97 rfl (lv_at hl 2 rfl) ?_
      refine lv_aload_n hx hb dX0_assign_98 rfl (lv_at hl 4 rfl) ?_
      have hO : OKP G h0 a (upd (upd (upd (upd (upd (upd (upd (upd (upd (upd (upd (upd (upd (upd (upd (upd (upd F 2 (nI sz)) 5 (nI cs)) 6 (nI rg)) 7 (nI hd)) 8 (nI dp)) 12 (nI vr)) 13 as9) 16 ls9) 5 (nI cs316)) 13 as317) 14 wt318) 15 wf319) 2 (nI sz)) 5 (nI cs316)) 7 (nI hd)) 12 (nI vr)) 13 as317) (updR (updR (updR (updR (updR R 2 (.ref pq)) 3 (.ref mq)) 4 (va_rf lp9)) 2 (.ref pq)) 3 (.ref mq)) Z B315 J K314 w := hO.to rfl
      obtain ⟨_, qr372, hqr373⟩ := hO.2.1 24 _ (sg_24 G h0 a _ _ _ _ _)
      refine pn_V0 (G := G) (As := [.ref q2]) (rest := [.ref q2, .ref (a 4)]) hx hb hml hown hq hE hX pX0_al hP hD hS hA hl.1 ((PY_all l G (n - 1)) h0 a (upd (upd (upd (upd (upd (upd (upd (upd (upd (upd (upd (upd F 2 (nI sz)) 5 (nI cs)) 6 (nI rg)) 7 (nI hd)) 8 (nI dp)) 12 (nI vr)) 13 as9) 16 ls9) 5 (nI cs316)) 13 as317) 14 wt318) 15 wf319) (updR (updR (updR R 2 (.ref pq)) 3 (.ref mq)) 4 (va_rf lp9)) Z B315 J K314 w pq dr ml nd nm cp it s9 q2 mq cs316 vr sz g rk pb Ag321 pd sl (u322 :: (t320 + 64) :: ([] : List Nat)) m9 dp lw hd c0 as317 True (by omega) (BdE.wp hbe355 hwp) (BdE.pt hbe355 hwp hps) (BdE.rko hbe355 hrk) (by omega) (by omega) hng357 hf343 hf350 ⟨hv1.1, (by have z9 := hv1; omega)⟩ (EkA.be hbe355 (hbr363 7 (by decide) (by decide)) (hbr363 11 (by decide) (by decide)) hek) (OwC.be hbe355 hmq hdr0 hcO) (NaB.be hbe355 hbf362 hwp hps.2.1 hdr0 (hbr363 11 (by decide) (by decide)) hna) hen365 (fun _ => hst368.1) (by omega) (by show 2 + ndE g q2 ≤ 248; omega) hlf1 hO hl0) (gV pw_173 pw_174 pw_175 pw_63 pw_224) hV_X0_value qr372 0 hqr373 rfl rfl rfl (Nat.le_of_ble_eq_true rfl) dX0_assign_99 ⟨(by show 0 + 1 ≤ 1; omega), (by show 0 + 6 ≤ 6; omega)⟩ ⟨(by show (5 * (n - 1) + 34) + 1 ≤ (5 * n + 36); omega), (by show 8 + (3 + 11) + (200 * (n - 1) + 600) ≤ (200 * n + 660); omega)⟩ (fun v371 u369 H locs hw370 hP hD hS => ?_) (fun ux ce9 q9 H9 locs9 hux hP9 hD9 hS9 hce hcv hcl => pb_out ux (ThQ.up (Thx.same (Thx.same (Thx.same (Thx.same (Thx.same (Thx.f (Thx.f (Thx.f (Thx.f (Bth.thx hbb356) (by omega)) (by omega)) (by omega)) (by omega)) rfl) rfl) rfl) rfl) rfl) (show RhX (updR (updR (updR R 2 (.ref pq)) 3 (.ref mq)) 4 (va_rf lp9)) (updR (updR (updR (updR (updR R 2 (.ref pq)) 3 (.ref mq)) 4 (va_rf lp9)) 2 (.ref pq)) 3 (.ref mq)) from fun k9 hk9 => by unfold updR; simp only [show ¬ k9 = 1 by omega, show ¬ k9 = 2 by omega, show ¬ k9 = 3 by omega, show ¬ k9 = 4 by omega, if_false]) hux) hnt hlocks hce hcv hcl hP9 hD9 hS9 (by show 0 + 1 ≤ 1; omega) (by show 0 + 6 ≤ 6; omega))
      obtain ⟨w, K374, B375, cs376, as377, wt378, wf379, t380, Ag381, u382⟩ := u369
      obtain ⟨hw370, h383, h384, h385, h386, h387, h388, h389, h390, h391, h392, h393, h394, hO⟩ := hw370
      have h383 : SmW B315 B375 cs316 := h383
      have h384 : BdE K314 K374 := h384
      have h385 : BeF K314 K374 := h385
      have h386 : BeL K314 K374 none := h386
      have h387 : BeI K314 K374 g q2 := h387
      have h388 : Bth B315 B375 := h388
      have h389 : BeR B315 B375 := h389
      have h390 : t380 < 128 := h390
      have h391 : cs316 ≤ cs376 ∧ cs376 + 0 ≤ cs316 + 2 * tlE g q2 := h391
      have h392 : AsE as317 as377 ∧ AsE as317 wt378 ∧ AsE as317 wf379 := h392
      have h393 : True → VaQ pb B315 B375 Ag321 Ag381 pd m9 dp lw cs316 cs376 as317 as377 wt378 wf379 hd sl (u322 :: (t320 + 64) :: ([] : List Nat)) t380 u382 (K314.2.1 0 q2) := h393
      have h394 : CaK (K314.2.1 0 q2) → cs376 + 2 ≤ cs316 + 2 * tlE g q2 := h394
      obtain rfl : v371 = some (.int (nI t380)) := hw370
      have hf395 : K374.1 pq = 7 := (BdE.T h384 hf335 (by decide))
      have hf396 : K374.2.2.1 18 pq = some (a 1) := (BdE.C h384 (by rw [hf335]; decide) 18).trans hf336
      have hf397 : K374.2.2.1 14 pq = some dr := (BdE.C h384 (by rw [hf335]; decide) 14).trans hf337
      have hf398 : K374.1 dr = 8 := (BdE.T h384 hf338 (by decide))
      have hf399 : K374.2.2.1 15 pq = some ml := (BdE.C h384 (by rw [hf335]; decide) 15).trans hf339
      have hf400 : K374.1 ml = 5 := (BdE.T h384 hf340 (by decide))
      have hf401 : K374.2.1 24 pq = (nI nd) := (BdE.I h384 (by rw [hf335]; decide) (by decide) (by decide)).trans hf341
      have hf402 : K374.1 q = 1 := (BdE.T h384 hf342 (by decide))
      have hf403 : K374.1 mq = 3 := (BdE.T h384 hf343 (by decide))
      have hf404 : K374.2.1 10 mq = (nI rt) := (BdE.I h384 (by rw [hf343]; decide) (by decide) (by decide)).trans hf344
      have hf405 : K374.2.1 15 dO = (nI c0) := (BdE.I h384 (by rw [hf347]; decide) (by decide) (by decide)).trans hf345
      have hf406 : K374.2.2.1 5 mq = some dO := (BdE.C h384 (by rw [hf343]; decide) 5).trans hf346
      have hf407 : K374.1 dO = 4 := (BdE.T h384 hf347 (by decide))
      have hf408 : K374.2.1 0 q = 14 := (BdE.I h384 (by rw [hf342]; decide) (by decide) (by decide)).trans hf348
      have hf409 : K374.2.1 1 q = tk := (BdE.I h384 (by rw [hf342]; decide) (by decide) (by decide)).trans hf349
      have hf410 : K374.1 q2 = 1 := (BdE.T h384 hf350 (by decide))
      have hf411 : K374.2.2.1 0 q = some z1 := (BdE.C h384 (by rw [hf342]; decide) 0).trans hf351
      have hf412 : K374.1 z1 = 1 := (BdE.T h384 hf352 (by decide))
      have hf413 : K374.2.2.1 1 q = some z2 := (BdE.C h384 (by rw [hf342]; decide) 1).trans hf353
      have hf414 : K374.1 z2 = 1 := (BdE.T h384 hf354 (by decide))
      have hO : OKP G h0 a (upd (upd (upd (upd (upd (upd (upd (upd (upd (upd F 2 (nI sz)) 5 (nI cs376)) 6 (nI rg)) 7 (nI hd)) 8 (nI dp)) 12 (nI vr)) 13 as377) 14 wt378) 15 wf379) 16 ls9) (updR (updR (updR R 2 (.ref pq)) 3 (.ref mq)) 4 (va_rf lp9)) Z B375 J K374 w := hO.to rfl
      refine W.widen (k := 0) (n := 0) (by show 0 + 0 ≤ 0; omega) (by show 0 + 0 ≤ 0; omega) ?_
      refine W.eq (g2 := F0 m 102 ls [.int (nI t380), .ref q2, .ref (a 4)]) rfl ?_
      have hbe415 := BdE.trans hbe355 h384
      have hbb416 : Bth B B375 := Bth.trans (show Thx (upd (upd (upd (upd (upd (upd (upd (upd F 2 (nI sz)) 5 (nI cs)) 6 (nI rg)) 7 (nI hd)) 8 (nI dp)) 12 (nI vr)) 13 as9) 16 ls9) (upd (upd (upd (upd (upd (upd (upd (upd (upd (upd (upd (upd F 2 (nI sz)) 5 (nI cs)) 6 (nI rg)) 7 (nI hd)) 8 (nI dp)) 12 (nI vr)) 13 as9) 16 ls9) 5 (nI cs316)) 13 as317) 14 wt318) 15 wf319) B B315 from (Thx.f (Thx.f (Thx.f (Thx.f (Bth.thx hbb356) (by omega)) (by omega)) (by omega)) (by omega))).2 h388
      have hng417 : Nng (B375 18) := h388.2 hng357
      have hsw418 : ∀ x9 : Nat, x9 < cs → (B375 16) x9 = B 16 x9 := fun x9 hx9 => ((h383 x9 (by omega)).1).trans (hsw358 x9 hx9)
      have hsw419 : ∀ x9 : Nat, x9 < cs → (B375 17) x9 = B 17 x9 := fun x9 hx9 => ((h383 x9 (by omega)).2.1).trans (hsw359 x9 hx9)
      have hsw420 : ∀ x9 : Nat, x9 < cs → (B375 18) x9 = B 18 x9 := fun x9 hx9 => ((h383 x9 (by omega)).2.2.1).trans (hsw360 x9 hx9)
      have hsw421 : ∀ x9 : Nat, x9 < cs → (B375 19) x9 = B 19 x9 := fun x9 hx9 => ((h383 x9 (by omega)).2.2.2).trans (hsw361 x9 hx9)
      have hbf422 := BeF.trans hbf362 h385 hbe355
      have hbl424 := BeL.trans hbl364 h386 hbe355
      have hbr423 : BsR B B375 := BsR.trans hbr363 (BeR.bs h389)
      have hen425 : EnV (B375 26) (B375 27) nd vr hd c0 sl := EnV.of (h389 26 (by decide)) (h389 27 (by decide)) hen365
      have hvs426 : VrS B B375 vr := fun i9 hi9 => ⟨(congrFun (h389 26 (by decide)) i9).trans (hvs366 i9 hi9).1, (congrFun (h389 27 (by decide)) i9).trans (hvs366 i9 hi9).2⟩
      have hao427 : AsO as377 ∧ AsO wt378 ∧ AsO wf379 := ⟨AsE.aso h392.1 hao367, AsE.aso h392.2.1 hao367, AsE.aso h392.2.2 hao367⟩
      refine lv_iload hx hb dX0_assign_102 (lv_at hl 0 rfl) ?_
      have hO : OKP G h0 a (upd (upd (upd (upd (upd (upd (upd (upd (upd (upd (upd (upd (upd F 2 (nI sz)) 5 (nI cs)) 6 (nI rg)) 7 (nI hd)) 8 (nI dp)) 12 (nI vr)) 13 as9) 16 ls9) 5 (nI cs376)) 13 as377) 14 wt378) 15 wf379) 2 (nI sz)) (updR (updR (updR (updR R 2 (.ref pq)) 3 (.ref mq)) 4 (va_rf lp9)) 2 (.ref pq)) Z B375 J K374 w := hO.to rfl
      obtain ⟨_, qr431, hqr432⟩ := hO.2.1 24 _ (sg_24 G h0 a _ _ _ _ _)
      refine pn_V0 (G := G) (As := [.ref q2, .int (nI t380), .int (nI t320)]) (rest := []) hx hb hml hown hq hE hX pX0_al hP hD hS hA hl.1 (Y_fit l G h0 a (upd (upd (upd (upd (upd (upd (upd (upd (upd (upd (upd (upd F 2 (nI sz)) 5 (nI cs)) 6 (nI rg)) 7 (nI hd)) 8 (nI dp)) 12 (nI vr)) 13 as9) 16 ls9) 5 (nI cs376)) 13 as377) 14 wt378) 15 wf379) (updR (updR (updR R 2 (.ref pq)) 3 (.ref mq)) 4 (va_rf lp9)) Z B375 J K374 w pq dr ml nd q2 sz t380 t320 g pb (by omega) (BdE.pt hbe415 hwp hps).1 (BdE.pt hbe415 hwp hps).2.1 hf410 (by omega) hna.1.1 (NaB.be hbe415 hbf422 hwp hps.2.1 hdr0 (hbr423 11 (by decide) (by decide)) hna).1.2.2 hO hl0) (gV pw_176 pw_177 pw_178 pw_63 pw_114) hV_X0_fit qr431 0 hqr432 rfl rfl rfl (Nat.le_of_ble_eq_true rfl) dX0_assign_104 ⟨(by show 0 + 1 ≤ 1; omega), (by show 0 + 6 ≤ 6; omega)⟩ ⟨(by show 7 + 1 ≤ (5 * n + 36); omega), (by show 8 + (4 + 11) + 122 ≤ (200 * n + 660); omega)⟩ (fun v430 u428 H locs hw429 hP hD hS => ?_) (fun ux ce9 q9 H9 locs9 hux hP9 hD9 hS9 hce hcv hcl => pb_out ux (ThQ.up (Thx.same (Thx.f (Thx.f (Thx.f (Thx.f (Bth.thx hbb416) (by omega)) (by omega)) (by omega)) (by omega)) rfl) (show RhX (updR (updR (updR R 2 (.ref pq)) 3 (.ref mq)) 4 (va_rf lp9)) (updR (updR (updR (updR R 2 (.ref pq)) 3 (.ref mq)) 4 (va_rf lp9)) 2 (.ref pq)) from fun k9 hk9 => by unfold updR; simp only [show ¬ k9 = 1 by omega, show ¬ k9 = 2 by omega, show ¬ k9 = 3 by omega, show ¬ k9 = 4 by omega, if_false]) hux) hnt hlocks hce hcv hcl hP9 hD9 hS9 (by show 0 + 1 ≤ 1; omega) (by show 0 + 6 ≤ 6; omega))
      obtain ⟨w, _⟩ := u428
      obtain ⟨hw429, h433, hO⟩ := hw429
      have h433 : FtQ pb t380 t320 := h433
      obtain rfl : v430 = none := hw429
      have hO : OKP G h0 a (upd (upd (upd (upd (upd (upd (upd (upd (upd (upd F 2 (nI sz)) 5 (nI cs376)) 6 (nI rg)) 7 (nI hd)) 8 (nI dp)) 12 (nI vr)) 13 as377) 14 wt378) 15 wf379) 16 ls9) (updR (updR (updR R 2 (.ref pq)) 3 (.ref mq)) 4 (va_rf lp9)) Z B375 J K374 w := hO.to rfl
      refine W.widen (k := 0) (n := 0) (by show 0 + 0 ≤ 0; omega) (by show 0 + 0 ≤ 0; omega) ?_
      refine W.eq (g2 := F0 m 107 ls []) rfl ?_
      have hst434 : StW pb.1 pb.2.1 pb.2.2.1 pb.2.2.2 Ag Ag381 Q9 Q9 pd pd m9 dp lw cs cs376 as9 as377 hd hd sl sl gr gr (B375 16) (B375 17) (B375 18) (B375 19) (u382 :: (u322 :: (t320 + 64) :: ([] : List Nat))) := StW.ev hst368 (VaQ.ev (h393 trivial) h390 h433.1)
      have hut435 : UTb u382 (nI t380) as377 wt378 wf379 := VaQ.ut (h393 trivial) h433.1
      refine lv_aload_n hx hb dX0_assign_107 rfl (lv_at hl 2 rfl) ?_
      refine c_get (v := .ref (a 2)) (C := RX0) (Tc := TX0) (N := 13) (ci := 0) hx hb hq pin_wsX00 hown hE hP hO 24 (sg_24 G h0 a _ _ _ _ _) rfl 1 (by decide) (hq _ pw_5) (fun _ h9 => h9) rfl dX0_assign_108 ?_
      refine lv_bipush (v := 20) hx hb dX0_assign_111 (by decide) ?_
      refine lv_iconst (v := 0) hx hb dX0_assign_113 (by decide) ?_
      refine lv_iconst (v := 0) hx hb dX0_assign_114 (by decide) ?_
      have hO : OKW G h0 a (upd (upd (upd (upd (upd (upd (upd (upd (upd (upd (upd (upd F 2 (nI sz)) 5 (nI cs376)) 6 (nI rg)) 7 (nI hd)) 8 (nI dp)) 12 (nI vr)) 13 as377) 14 wt378) 15 wf379) 16 ls9) 5 (nI cs376)) 7 (nI hd)) (updR (updR (updR R 2 (.ref pq)) 3 (.ref mq)) 4 (va_rf lp9)) Z B375 J K374.1 (fun q99 x99 => x99 = rep G a K374 q99) w := hO.to rfl
      obtain ⟨_, qr439, hqr440⟩ := hO.2.1 13 _ (sg_13 G h0 a _ _ _ _ _)
      refine pc_V0 (G := G) (As := [.int 20, .int 0, .int 0]) (rest := []) hx hb hml hown hq hE hX pX0_al hP hD hS hA hl.1 (Y_emit l G h0 a (upd (upd (upd (upd (upd (upd (upd (upd (upd (upd F 2 (nI sz)) 5 (nI cs376)) 6 (nI rg)) 7 (nI hd)) 8 (nI dp)) 12 (nI vr)) 13 as377) 14 wt378) 15 wf379) 16 ls9) (updR (updR (updR R 2 (.ref pq)) 3 (.ref mq)) 4 (va_rf lp9)) Z B375 J K374.1 (fun q99 x99 => x99 = rep G a K374 q99) w 20 0 0 cs376 hd (by omega) hO) (gV pw_129 pw_130 pw_131 pw_70 pw_115) hV_X1_emit qr439 1 hqr440 rfl rfl rfl (Nat.le_of_ble_eq_true rfl) dX0_assign_115 ⟨(by show 0 + 0 ≤ 1; omega), (by show 0 + 0 ≤ 6; omega)⟩ ⟨(by show 2 + 1 ≤ (5 * n + 36); omega), (by show 8 + (4 + 11) + 60 ≤ (200 * n + 660); omega)⟩ (fun v438 u436 H locs hw437 hP hD hS => ?_)
      obtain ⟨w, _⟩ := u436
      obtain ⟨hw437, hO⟩ := hw437
      obtain rfl : v438 = none := hw437
      have hO : OKP G h0 a (upd (upd (upd (upd (upd (upd (upd (upd (upd (upd F 2 (nI sz)) 5 (nI (cs376 + 1))) 6 (nI rg)) 7 (nI hd)) 8 (nI dp)) 12 (nI vr)) 13 as377) 14 wt378) 15 wf379) 16 ls9) (updR (updR (updR R 2 (.ref pq)) 3 (.ref mq)) 4 (va_rf lp9)) Z (updA (updA (updA (updA B375 16 (upd ((B375 16)) cs376 20)) 17 (upd ((B375 17)) cs376 0)) 18 (upd ((B375 18)) cs376 0)) 19 (upd ((B375 19)) cs376 (nI hd))) J K374 w := hO.to rfl
      refine W.widen (k := 0) (n := 0) (Nat.le_of_ble_eq_true rfl) (Nat.le_of_ble_eq_true rfl) ?_
      refine W.eq (g2 := F0 m 118 ls []) rfl ?_
      have hsw441 : ∀ x9 : Nat, x9 < cs → (upd ((B375 16)) cs376 20) x9 = B 16 x9 := fun x9 hx9 => (if_neg (by omega)).trans (hsw418 x9 hx9)
      have hsw442 : ∀ x9 : Nat, x9 < cs → (upd ((B375 17)) cs376 0) x9 = B 17 x9 := fun x9 hx9 => (if_neg (by omega)).trans (hsw419 x9 hx9)
      have hsw443 : ∀ x9 : Nat, x9 < cs → (upd ((B375 18)) cs376 0) x9 = B 18 x9 := fun x9 hx9 => (if_neg (by omega)).trans (hsw420 x9 hx9)
      have hsw444 : ∀ x9 : Nat, x9 < cs → (upd ((B375 19)) cs376 (nI hd)) x9 = B 19 x9 := fun x9 hx9 => (if_neg (by omega)).trans (hsw421 x9 hx9)
      obtain ⟨Ag445, hst446⟩ : ∃ A5 : Nat → AS, StW pb.1 pb.2.1 pb.2.2.1 pb.2.2.2 Ag A5 Q9 Q9 pd pd m9 dp lw cs (cs376 + 1) as9 as377 hd hd sl sl gr gr (upd ((B375 16)) cs376 20) (upd ((B375 17)) cs376 0) (upd ((B375 18)) cs376 0) (upd ((B375 19)) cs376 (nI hd)) ([] : List Nat) := ⟨(upS Ag381 (cs376 + 1) (rcA as377, hd, sl, ([] : List Nat))), StW.pute hst434 h334 (UTb.tlf hut435 h390 h433)⟩
      have hng447 : Nng (upd ((B375 18)) cs376 0) := Nng.set hng417 (k := 0) (by omega)
      refine lv_goto (tgt := 170) hx hb dX0_assign_118 (by decide) ?_
      refine W_size (fun hz1 hz2 => ?_)
      refine vx_ret ?_
      have hz448 : SmW B (updA (updA (updA (updA B375 16 (upd ((B375 16)) cs376 20)) 17 (upd ((B375 17)) cs376 0)) 18 (upd ((B375 18)) cs376 0)) 19 (upd ((B375 19)) cs376 (nI hd))) cs := (fun x9 hx9 => ⟨hsw441 x9 hx9, hsw442 x9 hx9, hsw443 x9 hx9, hsw444 x9 hx9⟩)
      have hz449 : BdE K K374 := hbe415
      have hz450 : BeF K K374 := hbf422
      have hz451 : BeL K K374 none := hbl424
      have hz452 : Bth B (updA (updA (updA (updA B375 16 (upd ((B375 16)) cs376 20)) 17 (upd ((B375 17)) cs376 0)) 18 (upd ((B375 18)) cs376 0)) 19 (upd ((B375 19)) cs376 (nI hd))) := (show Thx (upd (upd (upd (upd (upd (upd (upd (upd F 2 (nI sz)) 5 (nI cs)) 6 (nI rg)) 7 (nI hd)) 8 (nI dp)) 12 (nI vr)) 13 as9) 16 ls9) (upd (upd (upd (upd (upd (upd (upd (upd (upd (upd (upd (upd F 2 (nI sz)) 5 (nI cs)) 6 (nI rg)) 7 (nI hd)) 8 (nI dp)) 12 (nI vr)) 13 as9) 16 ls9) 5 (nI (cs376 + 1))) 13 as377) 14 wt378) 15 wf379) B (updA (updA (updA (updA B375 16 (upd ((B375 16)) cs376 20)) 17 (upd ((B375 17)) cs376 0)) 18 (upd ((B375 18)) cs376 0)) 19 (upd ((B375 19)) cs376 (nI hd))) from (Thx.b (Thx.b8 (Thx.b (Thx.b (Thx.f (Thx.f (Thx.f (Thx.f (Bth.thx hbb416) (by omega)) (by omega)) (by omega)) (by omega)) (by omega) (by decide)) (by omega) (by decide)) hng447) (by omega) (by decide))).2
      have hz453 : BsR B (updA (updA (updA (updA B375 16 (upd ((B375 16)) cs376 20)) 17 (upd ((B375 17)) cs376 0)) 18 (upd ((B375 18)) cs376 0)) 19 (upd ((B375 19)) cs376 (nI hd))) := (BsR.up (BsR.up (BsR.up (BsR.up hbr423 (by omega)) (by omega)) (by omega)) (by omega))
      have hz454 : cs ≤ (cs376 + 1) ∧ (cs376 + 1) + 1 ≤ cs + 2 * (tlE g q + tlE g q2 + 1) := (by omega)
      have hz455 : dp ≤ dp ∧ dp ≤ 71 := (by omega)
      have hz456 : vr ≤ vr ∧ vr ≤ 30 ∧ hd + vr = hd + vr := (by omega)
      have hz457 : AsO as377 := hao427.1
      have hz458 : VrS B (updA (updA (updA (updA B375 16 (upd ((B375 16)) cs376 20)) 17 (upd ((B375 17)) cs376 0)) 18 (upd ((B375 18)) cs376 0)) 19 (upd ((B375 19)) cs376 (nI hd))) vr := hvs426
      have hz459 : cs < (cs376 + 1) := (by omega)
      have hz460 : EnV ((updA (updA (updA (updA B375 16 (upd ((B375 16)) cs376 20)) 17 (upd ((B375 17)) cs376 0)) 18 (upd ((B375 18)) cs376 0)) 19 (upd ((B375 19)) cs376 (nI hd))) 26) ((updA (updA (updA (updA B375 16 (upd ((B375 16)) cs376 20)) 17 (upd ((B375 17)) cs376 0)) 18 (upd ((B375 18)) cs376 0)) 19 (upd ((B375 19)) cs376 (nI hd))) 27) nd vr hd c0 sl := hen425
      have hz461 : StW pb.1 pb.2.1 pb.2.2.1 pb.2.2.2 Ag Ag445 Q9 Q9 pd pd m9 dp lw cs (cs376 + 1) as9 as377 hd hd sl sl gr gr ((updA (updA (updA (updA B375 16 (upd ((B375 16)) cs376 20)) 17 (upd ((B375 17)) cs376 0)) 18 (upd ((B375 18)) cs376 0)) 19 (upd ((B375 19)) cs376 (nI hd))) 16) ((updA (updA (updA (updA B375 16 (upd ((B375 16)) cs376 20)) 17 (upd ((B375 17)) cs376 0)) 18 (upd ((B375 18)) cs376 0)) 19 (upd ((B375 19)) cs376 (nI hd))) 17) ((updA (updA (updA (updA B375 16 (upd ((B375 16)) cs376 20)) 17 (upd ((B375 17)) cs376 0)) 18 (upd ((B375 18)) cs376 0)) 19 (upd ((B375 19)) cs376 (nI hd))) 18) ((updA (updA (updA (updA B375 16 (upd ((B375 16)) cs376 20)) 17 (upd ((B375 17)) cs376 0)) 18 (upd ((B375 18)) cs376 0)) 19 (upd ((B375 19)) cs376 (nI hd))) 19) [] := hst446
      have hz462 : hd = hd := rfl
      have hO : OKP G h0 a (upd (upd (upd (upd (upd (upd (upd (upd (upd (upd F 2 (nI sz)) 5 (nI (cs376 + 1))) 6 (nI rg)) 7 (nI hd)) 8 (nI dp)) 12 (nI vr)) 13 as377) 14 wt378) 15 wf379) 16 ls9) (updR (updR (updR R 2 (.ref pq)) 3 (.ref mq)) 4 (va_rf lp9)) Z (updA (updA (updA (updA B375 16 (upd ((B375 16)) cs376 20)) 17 (upd ((B375 17)) cs376 0)) 18 (upd ((B375 18)) cs376 0)) 19 (upd ((B375 19)) cs376 (nI hd))) J K374 w := hO.to rfl
      refine W.widen (k := 1) (n := 6) (by omega) (by omega) ?_
      have hzz1 : H.size ≤ s.heap.size + (0) := (by have z : 0 ≤ 0 := (by omega); omega)
      have hzz2 : hSl H ≤ hSl s.heap + (0) := (by have z : 0 ≤ 0 := (by omega); omega)
      exact W.vret hx hb hr (fun t99 ht99 hW99 => ⟨⟨_, (w, (K374, (updA (updA (updA (updA B375 16 (upd ((B375 16)) cs376 20)) 17 (upd ((B375 17)) cs376 0)) 18 (upd ((B375 18)) cs376 0)) 19 (upd ((B375 19)) cs376 (nI hd))), (cs376 + 1), as377, wt378, wf379, vr, hd, dp, Ag445, sl)), rfl, ⟨rfl, hz448, hz449, hz450, hz451, hz452, hz453, hz454, hz455, hz456, hz457, hz458, hz459, hz460, hz461, hz462, hO⟩, by rw [ht99]; exact hP, hD, by rw [ht99]; exact hzz1, by rw [ht99]; exact hzz2⟩, hS.F ht99⟩) hS.2.2 dX0_assign_170
  · subst c1
    refine lv_aload_n hx hb dX0_assign_8 rfl (lv_at hl 0 rfl) ?_
    refine lv_aload_n hx hb dX0_assign_9 rfl (lv_at hl 0 rfl) ?_
    refine c_get (v := .ref (a 1)) (C := RX0) (Tc := TX0) (N := 13) (ci := 0) hx hb hq pin_wsX00 hown hE hP hO 24 (sg_24 G h0 a _ _ _ _ _) rfl 0 (by decide) (hq _ pw_4) (fun _ h9 => h9) rfl dX0_assign_10 ?_
    refine lv_aload_n hx hb dX0_assign_13 rfl (lv_at hl 1 rfl) ?_
    refine p_get (v := .int tk) (C := RX7) (Tc := TX7) (N := 11) (ci := 13) hx hb hq pin_wsX70 hown hE hP hO (by rw [hqT]; decide) (rep_1 hqT) rfl 1 (by decide) (hq _ pw_81) (fun _ h9 => h9) (congrArg (fun z => some (Value.int z)) htk) dX0_assign_14 ?_
    have hO : OKW G h0 a (upd (upd (upd (upd (upd (upd (upd (upd (upd F 2 (nI sz)) 5 (nI cs)) 6 (nI rg)) 7 (nI hd)) 8 (nI dp)) 12 (nI vr)) 13 as9) 16 ls9) 2 (nI sz)) (updR (updR (updR R 2 (.ref pq)) 3 (.ref mq)) 4 (va_rf lp9)) Z B J K.1 (fun q99 x99 => x99 = rep G a K q99) w := hO.to rfl
    obtain ⟨_, qr466, hqr467⟩ := hO.2.1 2 _ (sg_2 G h0 a _ _ _ _ _)
    refine pc_V0 (G := G) (As := [.int tk]) (rest := [.ref (a 4)]) hx hb hml hown hq hE hX pX0_al hP hD hS hA hl.1 (Y_valueAt l G h0 a (upd (upd (upd (upd (upd (upd (upd (upd F 2 (nI sz)) 5 (nI cs)) 6 (nI rg)) 7 (nI hd)) 8 (nI dp)) 12 (nI vr)) 13 as9) 16 ls9) (updR (updR (updR R 2 (.ref pq)) 3 (.ref mq)) 4 (va_rf lp9)) Z B J K.1 (fun q99 x99 => x99 = rep G a K q99) w tk sz (by omega) hO) (gV pw_56 pw_57 pw_58 pw_59 pw_39) hV_X10_valueAt qr466 7 hqr467 rfl rfl rfl (Nat.le_of_ble_eq_true rfl) dX0_assign_17 ⟨(by show 0 + 0 ≤ 1; omega), (by show 0 + 0 ≤ 6; omega)⟩ ⟨(by show 2 + 1 ≤ (5 * n + 36); omega), (by show 8 + (2 + 11) + 60 ≤ (200 * n + 660); omega)⟩ (fun v465 u463 H locs hw464 hP hD hS => ?_)
    obtain ⟨w, _⟩ := u463
    obtain ⟨hw464, hO⟩ := hw464
    obtain rfl : v465 = some (.int (tkN ((B 9)) sz (-1) tk)) := hw464
    have hO : OKP G h0 a (upd (upd (upd (upd (upd (upd (upd (upd F 2 (nI sz)) 5 (nI cs)) 6 (nI rg)) 7 (nI hd)) 8 (nI dp)) 12 (nI vr)) 13 as9) 16 ls9) (updR (updR (updR R 2 (.ref pq)) 3 (.ref mq)) 4 (va_rf lp9)) Z B J K w := hO.to rfl
    refine W.widen (k := 0) (n := 0) (Nat.le_of_ble_eq_true rfl) (Nat.le_of_ble_eq_true rfl) ?_
    refine W.eq (g2 := F0 m 20 ls [.int (tkN ((B 9)) sz (-1) tk), .ref (a 4)]) rfl ?_
    have hO : OKW G h0 a (upd (upd (upd (upd (upd (upd (upd (upd (upd F 2 (nI sz)) 5 (nI cs)) 6 (nI rg)) 7 (nI hd)) 8 (nI dp)) 12 (nI vr)) 13 as9) 16 ls9) 12 (nI vr)) (updR (updR (updR R 2 (.ref pq)) 3 (.ref mq)) 4 (va_rf lp9)) Z B J K.1 (fun q99 x99 => x99 = rep G a K q99) w := hO.to rfl
    obtain ⟨_, qr471, hqr472⟩ := hO.2.1 24 _ (sg_24 G h0 a _ _ _ _ _)
    refine pc_V0 (G := G) (As := [.int (tkN ((B 9)) sz (-1) tk)]) (rest := []) hx hb hml hown hq hE hX pX0_al hP hD hS hA hl.1 (B_variable l G h0 a (upd (upd (upd (upd (upd (upd (upd (upd F 2 (nI sz)) 5 (nI cs)) 6 (nI rg)) 7 (nI hd)) 8 (nI dp)) 12 (nI vr)) 13 as9) 16 ls9) (updR (updR (updR R 2 (.ref pq)) 3 (.ref mq)) 4 (va_rf lp9)) Z B J K.1 (fun q99 x99 => x99 = rep G a K q99) w (tkN ((B 9)) sz (-1) tk) vr (by omega) hO) (gV pw_60 pw_61 pw_62 pw_63 pw_41) hV_X0_variable qr471 0 hqr472 rfl rfl rfl (Nat.le_of_ble_eq_true rfl) dX0_assign_20 ⟨(by show 0 + 0 ≤ 1; omega), (by show 0 + 0 ≤ 6; omega)⟩ ⟨(by show 2 + 1 ≤ (5 * n + 36); omega), (by show 8 + (3 + 11) + 60 ≤ (200 * n + 660); omega)⟩ (fun v470 u468 H locs hw469 hP hD hS => ?_)
    obtain ⟨w, r473⟩ := u468
    obtain ⟨hw469, h474, hO⟩ := hw469
    have h474 : VrQ vr r473 := h474
    obtain rfl : v470 = some (.int r473) := hw469
    have hO : OKP G h0 a (upd (upd (upd (upd (upd (upd (upd (upd F 2 (nI sz)) 5 (nI cs)) 6 (nI rg)) 7 (nI hd)) 8 (nI dp)) 12 (nI vr)) 13 as9) 16 ls9) (updR (updR (updR R 2 (.ref pq)) 3 (.ref mq)) 4 (va_rf lp9)) Z B J K w := hO.to rfl
    refine W.widen (k := 0) (n := 0) (Nat.le_of_ble_eq_true rfl) (Nat.le_of_ble_eq_true rfl) ?_
    refine W.eq (g2 := F0 m 23 ls [.int r473]) rfl ?_
    refine lv_goto (tgt := 27) hx hb dX0_assign_23 (by decide) ?_
    refine lv_istore_n (lv' := [(3, .int r473), (0, .ref (a 4)), (1, .ref q), (2, .ref q2)]) hx hb dX0_assign_27 rfl hl (by decide) rfl (fun ls hl => ?_)
    refine lv_iload_n hx hb dX0_assign_28 rfl (lv_at hl 0 rfl) ?_
    refine lv_iconst (v := (-1)) hx hb dX0_assign_29 (by decide) ?_
    refine lv_icmp_eq (tgt := 79) hx hb dX0_assign_30 (by decide) (fun c475 => ?_) (fun c475 => ?_)
    · refine lv_aload_n hx hb dX0_assign_79 rfl (lv_at hl 2 rfl) ?_
      refine p_get (v := .int 5) (C := RX7) (Tc := TX7) (N := 11) (ci := 13) hx hb hq pin_wsX70 hown hE hP hO (by rw [hqT]; decide) (rep_1 hqT) rfl 0 (by decide) (hq _ pw_166) (fun _ h9 => h9) (congrArg (fun z => some (Value.int z)) hkd) dX0_assign_80 ?_
      refine lv_bipush (v := 14) hx hb dX0_assign_83 (by decide) ?_
      refine lv_icmp_ne (tgt := 121) hx hb dX0_assign_85 (by decide) (fun c476 => ?_) (fun c476 => absurd c476 (by decide))
      refine lv_aload_n hx hb dX0_assign_121 rfl (lv_at hl 2 rfl) ?_
      refine p_get (v := .int 5) (C := RX7) (Tc := TX7) (N := 11) (ci := 13) hx hb hq pin_wsX70 hown hE hP hO (by rw [hqT]; decide) (rep_1 hqT) rfl 0 (by decide) (hq _ pw_166) (fun _ h9 => h9) (congrArg (fun z => some (Value.int z)) hkd) dX0_assign_122 ?_
      refine lv_iconst (v := 5) hx hb dX0_assign_125 (by decide) ?_
      refine lv_icmp_ne (tgt := 137) hx hb dX0_assign_126 (by decide) (fun c477 => absurd c477 (by decide)) (fun c477 => ?_)
      refine lv_aload_n hx hb dX0_assign_129 rfl (lv_at hl 1 rfl) ?_
      refine lv_aload_n hx hb dX0_assign_130 rfl (lv_at hl 2 rfl) ?_
      have hO : OKP G h0 a (upd (upd (upd (upd (upd (upd (upd (upd (upd (upd (upd (upd (upd F 2 (nI sz)) 5 (nI cs)) 6 (nI rg)) 7 (nI hd)) 8 (nI dp)) 12 (nI vr)) 13 as9) 16 ls9) 2 (nI sz)) 5 (nI cs)) 7 (nI hd)) 12 (nI vr)) 13 as9) (updR (updR (updR (updR (updR R 2 (.ref pq)) 3 (.ref mq)) 4 (va_rf lp9)) 2 (.ref pq)) 3 (.ref mq)) Z B J K w := hO.to rfl
      obtain ⟨_, qr481, hqr482⟩ := hO.2.1 24 _ (sg_24 G h0 a _ _ _ _ _)
      refine pn_V0 (G := G) (As := [.ref q]) (rest := []) hx hb hml hown hq hE hX pX0_al hP hD hS hA hl.1 (Y_ownField l G h0 a (upd (upd (upd (upd (upd (upd (upd (upd F 2 (nI sz)) 5 (nI cs)) 6 (nI rg)) 7 (nI hd)) 8 (nI dp)) 12 (nI vr)) 13 as9) 16 ls9) (updR (updR (updR R 2 (.ref pq)) 3 (.ref mq)) 4 (va_rf lp9)) Z B J K w pq dr ml nd nm cp it s9 q mq cs vr sz n g rk pb Ag pd sl ([] : List Nat) m9 dp lw hd c0 as9 True (by omega) (BdE.wp BdE.rfl hwp) (BdE.pt BdE.rfl hwp hps) (BdE.rko BdE.rfl hrk) (by omega) (by omega) hng hmq hqT hqL (EkA.be BdE.rfl (BsR.rfl 7 (by decide) (by decide)) (BsR.rfl 11 (by decide) (by decide)) hek) (OwC.be BdE.rfl hmq hdr0 hcO) (NaB.be BdE.rfl BeF.rfl hwp hps.2.1 hdr0 (BsR.rfl 11 (by decide) (by decide)) hna) hen (fun _ => hst0.1) (by omega) (by show 0 + ndE g q ≤ 248; omega) hlfq hkd hO hl0) (gV pw_290 pw_291 pw_292 pw_63 pw_289) hV_X0_ownField qr481 0 hqr482 rfl rfl rfl (Nat.le_of_ble_eq_true rfl) dX0_assign_131 ⟨(by show 0 + 1 ≤ 1; omega), (by show 0 + 6 ≤ 6; omega)⟩ ⟨(by show (5 * n + 33) + 1 ≤ (5 * n + 36); omega), (by show 8 + (2 + 11) + (200 * n + 560) ≤ (200 * n + 660); omega)⟩ (fun v480 u478 H locs hw479 hP hD hS => ?_) (fun ux ce9 q9 H9 locs9 hux hP9 hD9 hS9 hce hcv hcl => pb_out ux (ThQ.up (Thx.same (Thx.same (Thx.same (Thx.same (Thx.same Thx.rfl rfl) rfl) rfl) rfl) rfl) (show RhX (updR (updR (updR R 2 (.ref pq)) 3 (.ref mq)) 4 (va_rf lp9)) (updR (updR (updR (updR (updR R 2 (.ref pq)) 3 (.ref mq)) 4 (va_rf lp9)) 2 (.ref pq)) 3 (.ref mq)) from fun k9 hk9 => by unfold updR; simp only [show ¬ k9 = 1 by omega, show ¬ k9 = 2 by omega, show ¬ k9 = 3 by omega, show ¬ k9 = 4 by omega, if_false]) hux) hnt hlocks hce hcv hcl hP9 hD9 hS9 (by show 0 + 1 ≤ 1; omega) (by show 0 + 6 ≤ 6; omega))
      obtain ⟨w, K483, B484, cs485, as486, wt487, wf488, t489, Ag490, n491⟩ := u478
      obtain ⟨hw479, h492, h493, h494, h495, h496, h497, h498, h499, h500, h501, h502, h503, h504, h505, hO⟩ := hw479
      have h492 : SmW B B484 cs := h492
      have h493 : BdE K K483 := h493
      have h494 : BeF K K483 := h494
      have h495 : BeL K K483 none := h495
      have h496 : BeI K K483 g q := h496
      have h497 : Bth B B484 := h497
      have h498 : BeR B B484 := h498
      have h499 : t489 < 128 := h499
      have h500 : cs ≤ cs485 ∧ cs485 + 1 ≤ cs + 2 * tlE g q := h500
      have h501 : AsE as9 as486 := h501
      have h502 : True → EvB pb B B484 Ag Ag490 pd m9 dp lw cs cs485 as9 as486 hd sl (c0 :: ([] : List Nat)) := h502
      have h503 : K483.2.1 5 q = nI n491 ∧ n491 < 5000 := h503
      have h504 : n491 < pb.2.1 c0 ∧ pb.2.2.1 c0 n491 = tyc t489 := h504
      have h505 : TyV nd t489 := h505
      obtain rfl : v480 = some (.int (nI t489)) := hw479
      have hf506 : K483.1 pq = 7 := (BdE.T h493 hp1 (by decide))
      have hf507 : K483.2.2.1 18 pq = some (a 1) := (BdE.C h493 (by rw [hp1]; decide) 18).trans hp2
      have hf508 : K483.2.2.1 14 pq = some dr := (BdE.C h493 (by rw [hp1]; decide) 14).trans hp3
      have hf509 : K483.1 dr = 8 := (BdE.T h493 hp4 (by decide))
      have hf510 : K483.2.2.1 15 pq = some ml := (BdE.C h493 (by rw [hp1]; decide) 15).trans hp5
      have hf511 : K483.1 ml = 5 := (BdE.T h493 hp6 (by decide))
      have hf512 : K483.2.1 24 pq = (nI nd) := (BdE.I h493 (by rw [hp1]; decide) (by decide) (by decide)).trans hp8
      have hf513 : K483.1 q = 1 := (BdE.T h493 hqT (by decide))
      have hf514 : K483.1 mq = 3 := (BdE.T h493 hmq (by decide))
      have hf515 : K483.2.1 10 mq = (nI rt) := (BdE.I h493 (by rw [hmq]; decide) (by decide) (by decide)).trans hrt
      have hf516 : K483.2.1 15 dO = (nI c0) := (BdE.I h493 (by rw [htO]; decide) (by decide) (by decide)).trans hnO
      have hf517 : K483.2.2.1 5 mq = some dO := (BdE.C h493 (by rw [hmq]; decide) 5).trans hdO
      have hf518 : K483.1 dO = 4 := (BdE.T h493 htO (by decide))
      have hf519 : K483.2.1 0 q = 5 := (BdE.I h493 (by rw [hqT]; decide) (by decide) (by decide)).trans hkd
      have hf520 : K483.2.1 1 q = tk := (BdE.I h493 (by rw [hqT]; decide) (by decide) (by decide)).trans htk
      have hf521 : K483.1 q2 = 1 := (BdE.T h493 ht1 (by decide))
      have hO : OKP G h0 a (upd (upd (upd (upd (upd (upd (upd (upd (upd (upd F 2 (nI sz)) 5 (nI cs485)) 6 (nI rg)) 7 (nI hd)) 8 (nI dp)) 12 (nI vr)) 13 as486) 14 wt487) 15 wf488) 16 ls9) (updR (updR (updR R 2 (.ref pq)) 3 (.ref mq)) 4 (va_rf lp9)) Z B484 J K483 w := hO.to rfl
      refine W.widen (k := 0) (n := 0) (by show 0 + 0 ≤ 0; omega) (by show 0 + 0 ≤ 0; omega) ?_
      refine W.eq (g2 := F0 m 134 ls [.int (nI t489)]) rfl ?_
      have hbe522 := BdE.trans BdE.rfl h493
      have hbb523 : Bth B B484 := Bth.trans (show Thx (upd (upd (upd (upd (upd (upd (upd (upd F 2 (nI sz)) 5 (nI cs)) 6 (nI rg)) 7 (nI hd)) 8 (nI dp)) 12 (nI vr)) 13 as9) 16 ls9) (upd (upd (upd (upd (upd (upd (upd (upd F 2 (nI sz)) 5 (nI cs)) 6 (nI rg)) 7 (nI hd)) 8 (nI dp)) 12 (nI vr)) 13 as9) 16 ls9) B B from Thx.rfl).2 h497
      have hng524 : Nng (B484 18) := h497.2 hng
      have hsw525 : ∀ x9 : Nat, x9 < cs → (B484 16) x9 = B 16 x9 := fun x9 hx9 => ((h492 x9 (by omega)).1).trans ((fun _ _ => rfl) x9 hx9)
      have hsw526 : ∀ x9 : Nat, x9 < cs → (B484 17) x9 = B 17 x9 := fun x9 hx9 => ((h492 x9 (by omega)).2.1).trans ((fun _ _ => rfl) x9 hx9)
      have hsw527 : ∀ x9 : Nat, x9 < cs → (B484 18) x9 = B 18 x9 := fun x9 hx9 => ((h492 x9 (by omega)).2.2.1).trans ((fun _ _ => rfl) x9 hx9)
      have hsw528 : ∀ x9 : Nat, x9 < cs → (B484 19) x9 = B 19 x9 := fun x9 hx9 => ((h492 x9 (by omega)).2.2.2).trans ((fun _ _ => rfl) x9 hx9)
      have hbf529 := BeF.trans BeF.rfl h494 BdE.rfl
      have hbl531 := BeL.trans BeL.rfl h495 BdE.rfl
      have hbr530 : BsR B B484 := BsR.trans BsR.rfl (BeR.bs h498)
      have hen532 : EnV (B484 26) (B484 27) nd vr hd c0 sl := EnV.of (h498 26 (by decide)) (h498 27 (by decide)) hen
      have hvs533 : VrS B B484 vr := fun i9 hi9 => ⟨(congrFun (h498 26 (by decide)) i9).trans (VrS.rfl i9 hi9).1, (congrFun (h498 27 (by decide)) i9).trans (VrS.rfl i9 hi9).2⟩
      have hao534 : AsO as486 := AsE.aso h501 hao
      have hst535 : StW pb.1 pb.2.1 pb.2.2.1 pb.2.2.2 Ag Ag490 Q9 Q9 pd pd m9 dp lw cs cs485 as9 as486 hd hd sl sl gr gr (B484 16) (B484 17) (B484 18) (B484 19) (c0 :: ([] : List Nat)) := StW.ev hst0 (h502 trivial)
      refine lv_goto (tgt := 142) hx hb dX0_assign_134 (by decide) ?_
      refine lv_istore (lv' := [(4, .int (nI t489)), (3, .int r473), (0, .ref (a 4)), (1, .ref q), (2, .ref q2)]) hx hb dX0_assign_142 hl (by decide) rfl (fun ls hl => ?_)
      refine lv_aload_n hx hb dX0_assign_144 rfl (lv_at hl 2 rfl) ?_
      refine lv_aload_n hx hb dX0_assign_145 rfl (lv_at hl 4 rfl) ?_
      refine lv_aload_n hx hb dX0_assign_146 rfl (lv_at hl 2 rfl) ?_
      refine lv_aload_n hx hb dX0_assign_147 rfl (lv_at hl 4 rfl) ?_
      have hO : OKP G h0 a (upd (upd (upd (upd (upd (upd (upd (upd (upd (upd (upd (upd (upd (upd (upd (upd (upd F 2 (nI sz)) 5 (nI cs)) 6 (nI rg)) 7 (nI hd)) 8 (nI dp)) 12 (nI vr)) 13 as9) 16 ls9) 5 (nI cs485)) 13 as486) 14 wt487) 15 wf488) 2 (nI sz)) 5 (nI cs485)) 7 (nI hd)) 12 (nI vr)) 13 as486) (updR (updR (updR (updR (updR R 2 (.ref pq)) 3 (.ref mq)) 4 (va_rf lp9)) 2 (.ref pq)) 3 (.ref mq)) Z B484 J K483 w := hO.to rfl
      obtain ⟨_, qr539, hqr540⟩ := hO.2.1 24 _ (sg_24 G h0 a _ _ _ _ _)
      refine pn_V0 (G := G) (As := [.ref q2]) (rest := [.ref q2, .ref (a 4)]) hx hb hml hown hq hE hX pX0_al hP hD hS hA hl.1 ((PY_all l G (n - 1)) h0 a (upd (upd (upd (upd (upd (upd (upd (upd (upd (upd (upd (upd F 2 (nI sz)) 5 (nI cs)) 6 (nI rg)) 7 (nI hd)) 8 (nI dp)) 12 (nI vr)) 13 as9) 16 ls9) 5 (nI cs485)) 13 as486) 14 wt487) 15 wf488) (updR (updR (updR R 2 (.ref pq)) 3 (.ref mq)) 4 (va_rf lp9)) Z B484 J K483 w pq dr ml nd nm cp it s9 q2 mq cs485 vr sz g rk pb Ag490 pd sl (c0 :: ([] : List Nat)) m9 dp lw hd c0 as486 True (by omega) (BdE.wp hbe522 hwp) (BdE.pt hbe522 hwp hps) (BdE.rko hbe522 hrk) (by omega) (by omega) hng524 hf514 hf521 ⟨hv1.1, (by have z9 := hv1; omega)⟩ (EkA.be hbe522 (hbr530 7 (by decide) (by decide)) (hbr530 11 (by decide) (by decide)) hek) (OwC.be hbe522 hmq hdr0 hcO) (NaB.be hbe522 hbf529 hwp hps.2.1 hdr0 (hbr530 11 (by decide) (by decide)) hna) hen532 (fun _ => hst535.1) (by omega) (by show 1 + ndE g q2 ≤ 248; omega) hlf1 hO hl0) (gV pw_173 pw_174 pw_175 pw_63 pw_224) hV_X0_value qr539 0 hqr540 rfl rfl rfl (Nat.le_of_ble_eq_true rfl) dX0_assign_148 ⟨(by show 0 + 1 ≤ 1; omega), (by show 0 + 6 ≤ 6; omega)⟩ ⟨(by show (5 * (n - 1) + 34) + 1 ≤ (5 * n + 36); omega), (by show 8 + (3 + 11) + (200 * (n - 1) + 600) ≤ (200 * n + 660); omega)⟩ (fun v538 u536 H locs hw537 hP hD hS => ?_) (fun ux ce9 q9 H9 locs9 hux hP9 hD9 hS9 hce hcv hcl => pb_out ux (ThQ.up (Thx.same (Thx.same (Thx.same (Thx.same (Thx.same (Thx.f (Thx.f (Thx.f (Thx.f (Bth.thx hbb523) (by omega)) (by omega)) (by omega)) (by omega)) rfl) rfl) rfl) rfl) rfl) (show RhX (updR (updR (updR R 2 (.ref pq)) 3 (.ref mq)) 4 (va_rf lp9)) (updR (updR (updR (updR (updR R 2 (.ref pq)) 3 (.ref mq)) 4 (va_rf lp9)) 2 (.ref pq)) 3 (.ref mq)) from fun k9 hk9 => by unfold updR; simp only [show ¬ k9 = 1 by omega, show ¬ k9 = 2 by omega, show ¬ k9 = 3 by omega, show ¬ k9 = 4 by omega, if_false]) hux) hnt hlocks hce hcv hcl hP9 hD9 hS9 (by show 0 + 1 ≤ 1; omega) (by show 0 + 6 ≤ 6; omega))
      obtain ⟨w, K541, B542, cs543, as544, wt545, wf546, t547, Ag548, u549⟩ := u536
      obtain ⟨hw537, h550, h551, h552, h553, h554, h555, h556, h557, h558, h559, h560, h561, hO⟩ := hw537
      have h550 : SmW B484 B542 cs485 := h550
      have h551 : BdE K483 K541 := h551
      have h552 : BeF K483 K541 := h552
      have h553 : BeL K483 K541 none := h553
      have h554 : BeI K483 K541 g q2 := h554
      have h555 : Bth B484 B542 := h555
      have h556 : BeR B484 B542 := h556
      have h557 : t547 < 128 := h557
      have h558 : cs485 ≤ cs543 ∧ cs543 + 0 ≤ cs485 + 2 * tlE g q2 := h558
      have h559 : AsE as486 as544 ∧ AsE as486 wt545 ∧ AsE as486 wf546 := h559
      have h560 : True → VaQ pb B484 B542 Ag490 Ag548 pd m9 dp lw cs485 cs543 as486 as544 wt545 wf546 hd sl (c0 :: ([] : List Nat)) t547 u549 (K483.2.1 0 q2) := h560
      have h561 : CaK (K483.2.1 0 q2) → cs543 + 2 ≤ cs485 + 2 * tlE g q2 := h561
      obtain rfl : v538 = some (.int (nI t547)) := hw537
      have hf562 : K541.1 pq = 7 := (BdE.T h551 hf506 (by decide))
      have hf563 : K541.2.2.1 18 pq = some (a 1) := (BdE.C h551 (by rw [hf506]; decide) 18).trans hf507
      have hf564 : K541.2.2.1 14 pq = some dr := (BdE.C h551 (by rw [hf506]; decide) 14).trans hf508
      have hf565 : K541.1 dr = 8 := (BdE.T h551 hf509 (by decide))
      have hf566 : K541.2.2.1 15 pq = some ml := (BdE.C h551 (by rw [hf506]; decide) 15).trans hf510
      have hf567 : K541.1 ml = 5 := (BdE.T h551 hf511 (by decide))
      have hf568 : K541.2.1 24 pq = (nI nd) := (BdE.I h551 (by rw [hf506]; decide) (by decide) (by decide)).trans hf512
      have hf569 : K541.1 q = 1 := (BdE.T h551 hf513 (by decide))
      have hf570 : K541.1 mq = 3 := (BdE.T h551 hf514 (by decide))
      have hf571 : K541.2.1 10 mq = (nI rt) := (BdE.I h551 (by rw [hf514]; decide) (by decide) (by decide)).trans hf515
      have hf572 : K541.2.1 15 dO = (nI c0) := (BdE.I h551 (by rw [hf518]; decide) (by decide) (by decide)).trans hf516
      have hf573 : K541.2.2.1 5 mq = some dO := (BdE.C h551 (by rw [hf514]; decide) 5).trans hf517
      have hf574 : K541.1 dO = 4 := (BdE.T h551 hf518 (by decide))
      have hf575 : K541.2.1 0 q = 5 := (BdE.I h551 (by rw [hf513]; decide) (by decide) (by decide)).trans hf519
      have hf576 : K541.2.1 1 q = tk := (BdE.I h551 (by rw [hf513]; decide) (by decide) (by decide)).trans hf520
      have hf577 : K541.1 q2 = 1 := (BdE.T h551 hf521 (by decide))
      have hO : OKP G h0 a (upd (upd (upd (upd (upd (upd (upd (upd (upd (upd F 2 (nI sz)) 5 (nI cs543)) 6 (nI rg)) 7 (nI hd)) 8 (nI dp)) 12 (nI vr)) 13 as544) 14 wt545) 15 wf546) 16 ls9) (updR (updR (updR R 2 (.ref pq)) 3 (.ref mq)) 4 (va_rf lp9)) Z B542 J K541 w := hO.to rfl
      refine W.widen (k := 0) (n := 0) (by show 0 + 0 ≤ 0; omega) (by show 0 + 0 ≤ 0; omega) ?_
      refine W.eq (g2 := F0 m 151 ls [.int (nI t547), .ref q2, .ref (a 4)]) rfl ?_
      have hbe578 := BdE.trans hbe522 h551
      have hbb579 : Bth B B542 := Bth.trans (show Thx (upd (upd (upd (upd (upd (upd (upd (upd F 2 (nI sz)) 5 (nI cs)) 6 (nI rg)) 7 (nI hd)) 8 (nI dp)) 12 (nI vr)) 13 as9) 16 ls9) (upd (upd (upd (upd (upd (upd (upd (upd (upd (upd (upd (upd F 2 (nI sz)) 5 (nI cs)) 6 (nI rg)) 7 (nI hd)) 8 (nI dp)) 12 (nI vr)) 13 as9) 16 ls9) 5 (nI cs485)) 13 as486) 14 wt487) 15 wf488) B B484 from (Thx.f (Thx.f (Thx.f (Thx.f (Bth.thx hbb523) (by omega)) (by omega)) (by omega)) (by omega))).2 h555
      have hng580 : Nng (B542 18) := h555.2 hng524
      have hsw581 : ∀ x9 : Nat, x9 < cs → (B542 16) x9 = B 16 x9 := fun x9 hx9 => ((h550 x9 (by omega)).1).trans (hsw525 x9 hx9)
      have hsw582 : ∀ x9 : Nat, x9 < cs → (B542 17) x9 = B 17 x9 := fun x9 hx9 => ((h550 x9 (by omega)).2.1).trans (hsw526 x9 hx9)
      have hsw583 : ∀ x9 : Nat, x9 < cs → (B542 18) x9 = B 18 x9 := fun x9 hx9 => ((h550 x9 (by omega)).2.2.1).trans (hsw527 x9 hx9)
      have hsw584 : ∀ x9 : Nat, x9 < cs → (B542 19) x9 = B 19 x9 := fun x9 hx9 => ((h550 x9 (by omega)).2.2.2).trans (hsw528 x9 hx9)
      have hbf585 := BeF.trans hbf529 h552 hbe522
      have hbl587 := BeL.trans hbl531 h553 hbe522
      have hbr586 : BsR B B542 := BsR.trans hbr530 (BeR.bs h556)
      have hen588 : EnV (B542 26) (B542 27) nd vr hd c0 sl := EnV.of (h556 26 (by decide)) (h556 27 (by decide)) hen532
      have hvs589 : VrS B B542 vr := fun i9 hi9 => ⟨(congrFun (h556 26 (by decide)) i9).trans (hvs533 i9 hi9).1, (congrFun (h556 27 (by decide)) i9).trans (hvs533 i9 hi9).2⟩
      have hao590 : AsO as544 ∧ AsO wt545 ∧ AsO wf546 := ⟨AsE.aso h559.1 hao534, AsE.aso h559.2.1 hao534, AsE.aso h559.2.2 hao534⟩
      have hf591 : K541.2.1 5 q = (nI n491) := (h554 q hf513 hout).trans h503.1
      refine lv_iload hx hb dX0_assign_151 (lv_at hl 0 rfl) ?_
      have hO : OKP G h0 a (upd (upd (upd (upd (upd (upd (upd (upd (upd (upd (upd (upd (upd F 2 (nI sz)) 5 (nI cs)) 6 (nI rg)) 7 (nI hd)) 8 (nI dp)) 12 (nI vr)) 13 as9) 16 ls9) 5 (nI cs543)) 13 as544) 14 wt545) 15 wf546) 2 (nI sz)) (updR (updR (updR (updR R 2 (.ref pq)) 3 (.ref mq)) 4 (va_rf lp9)) 2 (.ref pq)) Z B542 J K541 w := hO.to rfl
      obtain ⟨_, qr595, hqr596⟩ := hO.2.1 24 _ (sg_24 G h0 a _ _ _ _ _)
      refine pn_V0 (G := G) (As := [.ref q2, .int (nI t547), .int (nI t489)]) (rest := []) hx hb hml hown hq hE hX pX0_al hP hD hS hA hl.1 (Y_fit l G h0 a (upd (upd (upd (upd (upd (upd (upd (upd (upd (upd (upd (upd F 2 (nI sz)) 5 (nI cs)) 6 (nI rg)) 7 (nI hd)) 8 (nI dp)) 12 (nI vr)) 13 as9) 16 ls9) 5 (nI cs543)) 13 as544) 14 wt545) 15 wf546) (updR (updR (updR R 2 (.ref pq)) 3 (.ref mq)) 4 (va_rf lp9)) Z B542 J K541 w pq dr ml nd q2 sz t547 t489 g pb (by omega) (BdE.pt hbe578 hwp hps).1 (BdE.pt hbe578 hwp hps).2.1 hf577 (by omega) hna.1.1 (NaB.be hbe578 hbf585 hwp hps.2.1 hdr0 (hbr586 11 (by decide) (by decide)) hna).1.2.2 hO hl0) (gV pw_176 pw_177 pw_178 pw_63 pw_114) hV_X0_fit qr595 0 hqr596 rfl rfl rfl (Nat.le_of_ble_eq_true rfl) dX0_assign_153 ⟨(by show 0 + 1 ≤ 1; omega), (by show 0 + 6 ≤ 6; omega)⟩ ⟨(by show 7 + 1 ≤ (5 * n + 36); omega), (by show 8 + (4 + 11) + 122 ≤ (200 * n + 660); omega)⟩ (fun v594 u592 H locs hw593 hP hD hS => ?_) (fun ux ce9 q9 H9 locs9 hux hP9 hD9 hS9 hce hcv hcl => pb_out ux (ThQ.up (Thx.same (Thx.f (Thx.f (Thx.f (Thx.f (Bth.thx hbb579) (by omega)) (by omega)) (by omega)) (by omega)) rfl) (show RhX (updR (updR (updR R 2 (.ref pq)) 3 (.ref mq)) 4 (va_rf lp9)) (updR (updR (updR (updR R 2 (.ref pq)) 3 (.ref mq)) 4 (va_rf lp9)) 2 (.ref pq)) from fun k9 hk9 => by unfold updR; simp only [show ¬ k9 = 1 by omega, show ¬ k9 = 2 by omega, show ¬ k9 = 3 by omega, show ¬ k9 = 4 by omega, if_false]) hux) hnt hlocks hce hcv hcl hP9 hD9 hS9 (by show 0 + 1 ≤ 1; omega) (by show 0 + 6 ≤ 6; omega))
      obtain ⟨w, _⟩ := u592
      obtain ⟨hw593, h597, hO⟩ := hw593
      have h597 : FtQ pb t547 t489 := h597
      obtain rfl : v594 = none := hw593
      have hO : OKP G h0 a (upd (upd (upd (upd (upd (upd (upd (upd (upd (upd F 2 (nI sz)) 5 (nI cs543)) 6 (nI rg)) 7 (nI hd)) 8 (nI dp)) 12 (nI vr)) 13 as544) 14 wt545) 15 wf546) 16 ls9) (updR (updR (updR R 2 (.ref pq)) 3 (.ref mq)) 4 (va_rf lp9)) Z B542 J K541 w := hO.to rfl
      refine W.widen (k := 0) (n := 0) (by show 0 + 0 ≤ 0; omega) (by show 0 + 0 ≤ 0; omega) ?_
      refine W.eq (g2 := F0 m 156 ls []) rfl ?_
      have hst598 : StW pb.1 pb.2.1 pb.2.2.1 pb.2.2.2 Ag Ag548 Q9 Q9 pd pd m9 dp lw cs cs543 as9 as544 hd hd sl sl gr gr (B542 16) (B542 17) (B542 18) (B542 19) (u549 :: (c0 :: ([] : List Nat))) := StW.ev hst535 (VaQ.ev (h560 trivial) h557 h597.1)
      have hut599 : UTb u549 (nI t547) as544 wt545 wf546 := VaQ.ut (h560 trivial) h597.1
      refine lv_aload_n hx hb dX0_assign_156 rfl (lv_at hl 2 rfl) ?_
      refine c_get (v := .ref (a 2)) (C := RX0) (Tc := TX0) (N := 13) (ci := 0) hx hb hq pin_wsX00 hown hE hP hO 24 (sg_24 G h0 a _ _ _ _ _) rfl 1 (by decide) (hq _ pw_5) (fun _ h9 => h9) rfl dX0_assign_157 ?_
      refine lv_bipush (v := 18) hx hb dX0_assign_160 (by decide) ?_
      refine lv_aload_n hx hb dX0_assign_162 rfl (lv_at hl 3 rfl) ?_
      refine p_get (v := .int (nI n491)) (C := RX7) (Tc := TX7) (N := 11) (ci := 13) hx hb hq pin_wsX70 hown hE hP hO (by rw [hf569]; decide) (rep_1 hf569) rfl 5 (by decide) (hq _ pw_142) (fun _ h9 => h9) (congrArg (fun z => some (Value.int z)) hf591) dX0_assign_163 ?_
      refine lv_iconst (v := 0) hx hb dX0_assign_166 (by decide) ?_
      have hO : OKW G h0 a (upd (upd (upd (upd (upd (upd (upd (upd (upd (upd (upd (upd F 2 (nI sz)) 5 (nI cs543)) 6 (nI rg)) 7 (nI hd)) 8 (nI dp)) 12 (nI vr)) 13 as544) 14 wt545) 15 wf546) 16 ls9) 5 (nI cs543)) 7 (nI hd)) (updR (updR (updR R 2 (.ref pq)) 3 (.ref mq)) 4 (va_rf lp9)) Z B542 J K541.1 (fun q99 x99 => x99 = rep G a K541 q99) w := hO.to rfl
      obtain ⟨_, qr603, hqr604⟩ := hO.2.1 13 _ (sg_13 G h0 a _ _ _ _ _)
      refine pc_V0 (G := G) (As := [.int 18, .int (nI n491), .int 0]) (rest := []) hx hb hml hown hq hE hX pX0_al hP hD hS hA hl.1 (Y_emit l G h0 a (upd (upd (upd (upd (upd (upd (upd (upd (upd (upd F 2 (nI sz)) 5 (nI cs543)) 6 (nI rg)) 7 (nI hd)) 8 (nI dp)) 12 (nI vr)) 13 as544) 14 wt545) 15 wf546) 16 ls9) (updR (updR (updR R 2 (.ref pq)) 3 (.ref mq)) 4 (va_rf lp9)) Z B542 J K541.1 (fun q99 x99 => x99 = rep G a K541 q99) w 18 (nI n491) 0 cs543 hd (by omega) hO) (gV pw_129 pw_130 pw_131 pw_70 pw_115) hV_X1_emit qr603 1 hqr604 rfl rfl rfl (Nat.le_of_ble_eq_true rfl) dX0_assign_167 ⟨(by show 0 + 0 ≤ 1; omega), (by show 0 + 0 ≤ 6; omega)⟩ ⟨(by show 2 + 1 ≤ (5 * n + 36); omega), (by show 8 + (4 + 11) + 60 ≤ (200 * n + 660); omega)⟩ (fun v602 u600 H locs hw601 hP hD hS => ?_)
      obtain ⟨w, _⟩ := u600
      obtain ⟨hw601, hO⟩ := hw601
      obtain rfl : v602 = none := hw601
      have hO : OKP G h0 a (upd (upd (upd (upd (upd (upd (upd (upd (upd (upd F 2 (nI sz)) 5 (nI (cs543 + 1))) 6 (nI rg)) 7 (nI hd)) 8 (nI dp)) 12 (nI vr)) 13 as544) 14 wt545) 15 wf546) 16 ls9) (updR (updR (updR R 2 (.ref pq)) 3 (.ref mq)) 4 (va_rf lp9)) Z (updA (updA (updA (updA B542 16 (upd ((B542 16)) cs543 18)) 17 (upd ((B542 17)) cs543 (nI n491))) 18 (upd ((B542 18)) cs543 0)) 19 (upd ((B542 19)) cs543 (nI hd))) J K541 w := hO.to rfl
      refine W.widen (k := 0) (n := 0) (Nat.le_of_ble_eq_true rfl) (Nat.le_of_ble_eq_true rfl) ?_
      refine W.eq (g2 := F0 m 170 ls []) rfl ?_
      have hsw605 : ∀ x9 : Nat, x9 < cs → (upd ((B542 16)) cs543 18) x9 = B 16 x9 := fun x9 hx9 => (if_neg (by omega)).trans (hsw581 x9 hx9)
      have hsw606 : ∀ x9 : Nat, x9 < cs → (upd ((B542 17)) cs543 (nI n491)) x9 = B 17 x9 := fun x9 hx9 => (if_neg (by omega)).trans (hsw582 x9 hx9)
      have hsw607 : ∀ x9 : Nat, x9 < cs → (upd ((B542 18)) cs543 0) x9 = B 18 x9 := fun x9 hx9 => (if_neg (by omega)).trans (hsw583 x9 hx9)
      have hsw608 : ∀ x9 : Nat, x9 < cs → (upd ((B542 19)) cs543 (nI hd)) x9 = B 19 x9 := fun x9 hx9 => (if_neg (by omega)).trans (hsw584 x9 hx9)
      obtain ⟨Ag609, hst610⟩ : ∃ A5 : Nat → AS, StW pb.1 pb.2.1 pb.2.2.1 pb.2.2.2 Ag A5 Q9 Q9 pd pd m9 dp lw cs (cs543 + 1) as9 as544 hd hd sl sl gr gr (upd ((B542 16)) cs543 18) (upd ((B542 17)) cs543 (nI n491)) (upd ((B542 18)) cs543 0) (upd ((B542 19)) cs543 (nI hd)) ([] : List Nat) := ⟨(upS Ag548 (cs543 + 1) (rcA as544, hd, sl, ([] : List Nat))), StW.putf hst598 (by have z9 := hna.1.1; have z8 := hen.1.2.2; omega) h504.1 (by rw [h504.2, tyc_ne h597.2.1]; exact UTb.tlf hut599 h557 h597)⟩
      have hng611 : Nng (upd ((B542 18)) cs543 0) := Nng.set hng580 (k := 0) (by omega)
      refine W_size (fun hz1 hz2 => ?_)
      refine vx_ret ?_
      have hz612 : SmW B (updA (updA (updA (updA B542 16 (upd ((B542 16)) cs543 18)) 17 (upd ((B542 17)) cs543 (nI n491))) 18 (upd ((B542 18)) cs543 0)) 19 (upd ((B542 19)) cs543 (nI hd))) cs := (fun x9 hx9 => ⟨hsw605 x9 hx9, hsw606 x9 hx9, hsw607 x9 hx9, hsw608 x9 hx9⟩)
      have hz613 : BdE K K541 := hbe578
      have hz614 : BeF K K541 := hbf585
      have hz615 : BeL K K541 none := hbl587
      have hz616 : Bth B (updA (updA (updA (updA B542 16 (upd ((B542 16)) cs543 18)) 17 (upd ((B542 17)) cs543 (nI n491))) 18 (upd ((B542 18)) cs543 0)) 19 (upd ((B542 19)) cs543 (nI hd))) := (show Thx (upd (upd (upd (upd (upd (upd (upd (upd F 2 (nI sz)) 5 (nI cs)) 6 (nI rg)) 7 (nI hd)) 8 (nI dp)) 12 (nI vr)) 13 as9) 16 ls9) (upd (upd (upd (upd (upd (upd (upd (upd (upd (upd (upd (upd F 2 (nI sz)) 5 (nI cs)) 6 (nI rg)) 7 (nI hd)) 8 (nI dp)) 12 (nI vr)) 13 as9) 16 ls9) 5 (nI (cs543 + 1))) 13 as544) 14 wt545) 15 wf546) B (updA (updA (updA (updA B542 16 (upd ((B542 16)) cs543 18)) 17 (upd ((B542 17)) cs543 (nI n491))) 18 (upd ((B542 18)) cs543 0)) 19 (upd ((B542 19)) cs543 (nI hd))) from (Thx.b (Thx.b8 (Thx.b (Thx.b (Thx.f (Thx.f (Thx.f (Thx.f (Bth.thx hbb579) (by omega)) (by omega)) (by omega)) (by omega)) (by omega) (by decide)) (by omega) (by decide)) hng611) (by omega) (by decide))).2
      have hz617 : BsR B (updA (updA (updA (updA B542 16 (upd ((B542 16)) cs543 18)) 17 (upd ((B542 17)) cs543 (nI n491))) 18 (upd ((B542 18)) cs543 0)) 19 (upd ((B542 19)) cs543 (nI hd))) := (BsR.up (BsR.up (BsR.up (BsR.up hbr586 (by omega)) (by omega)) (by omega)) (by omega))
      have hz618 : cs ≤ (cs543 + 1) ∧ (cs543 + 1) + 1 ≤ cs + 2 * (tlE g q + tlE g q2 + 1) := (by omega)
      have hz619 : dp ≤ dp ∧ dp ≤ 71 := (by omega)
      have hz620 : vr ≤ vr ∧ vr ≤ 30 ∧ hd + vr = hd + vr := (by omega)
      have hz621 : AsO as544 := hao590.1
      have hz622 : VrS B (updA (updA (updA (updA B542 16 (upd ((B542 16)) cs543 18)) 17 (upd ((B542 17)) cs543 (nI n491))) 18 (upd ((B542 18)) cs543 0)) 19 (upd ((B542 19)) cs543 (nI hd))) vr := hvs589
      have hz623 : cs < (cs543 + 1) := (by omega)
      have hz624 : EnV ((updA (updA (updA (updA B542 16 (upd ((B542 16)) cs543 18)) 17 (upd ((B542 17)) cs543 (nI n491))) 18 (upd ((B542 18)) cs543 0)) 19 (upd ((B542 19)) cs543 (nI hd))) 26) ((updA (updA (updA (updA B542 16 (upd ((B542 16)) cs543 18)) 17 (upd ((B542 17)) cs543 (nI n491))) 18 (upd ((B542 18)) cs543 0)) 19 (upd ((B542 19)) cs543 (nI hd))) 27) nd vr hd c0 sl := hen588
      have hz625 : StW pb.1 pb.2.1 pb.2.2.1 pb.2.2.2 Ag Ag609 Q9 Q9 pd pd m9 dp lw cs (cs543 + 1) as9 as544 hd hd sl sl gr gr ((updA (updA (updA (updA B542 16 (upd ((B542 16)) cs543 18)) 17 (upd ((B542 17)) cs543 (nI n491))) 18 (upd ((B542 18)) cs543 0)) 19 (upd ((B542 19)) cs543 (nI hd))) 16) ((updA (updA (updA (updA B542 16 (upd ((B542 16)) cs543 18)) 17 (upd ((B542 17)) cs543 (nI n491))) 18 (upd ((B542 18)) cs543 0)) 19 (upd ((B542 19)) cs543 (nI hd))) 17) ((updA (updA (updA (updA B542 16 (upd ((B542 16)) cs543 18)) 17 (upd ((B542 17)) cs543 (nI n491))) 18 (upd ((B542 18)) cs543 0)) 19 (upd ((B542 19)) cs543 (nI hd))) 18) ((updA (updA (updA (updA B542 16 (upd ((B542 16)) cs543 18)) 17 (upd ((B542 17)) cs543 (nI n491))) 18 (upd ((B542 18)) cs543 0)) 19 (upd ((B542 19)) cs543 (nI hd))) 19) [] := hst610
      have hz626 : hd = hd := rfl
      have hO : OKP G h0 a (upd (upd (upd (upd (upd (upd (upd (upd (upd (upd F 2 (nI sz)) 5 (nI (cs543 + 1))) 6 (nI rg)) 7 (nI hd)) 8 (nI dp)) 12 (nI vr)) 13 as544) 14 wt545) 15 wf546) 16 ls9) (updR (updR (updR R 2 (.ref pq)) 3 (.ref mq)) 4 (va_rf lp9)) Z (updA (updA (updA (updA B542 16 (upd ((B542 16)) cs543 18)) 17 (upd ((B542 17)) cs543 (nI n491))) 18 (upd ((B542 18)) cs543 0)) 19 (upd ((B542 19)) cs543 (nI hd))) J K541 w := hO.to rfl
      refine W.widen (k := 1) (n := 6) (by omega) (by omega) ?_
      have hzz1 : H.size ≤ s.heap.size + (0) := (by have z : 0 ≤ 0 := (by omega); omega)
      have hzz2 : hSl H ≤ hSl s.heap + (0) := (by have z : 0 ≤ 0 := (by omega); omega)
      exact W.vret hx hb hr (fun t99 ht99 hW99 => ⟨⟨_, (w, (K541, (updA (updA (updA (updA B542 16 (upd ((B542 16)) cs543 18)) 17 (upd ((B542 17)) cs543 (nI n491))) 18 (upd ((B542 18)) cs543 0)) 19 (upd ((B542 19)) cs543 (nI hd))), (cs543 + 1), as544, wt545, wf546, vr, hd, dp, Ag609, sl)), rfl, ⟨rfl, hz612, hz613, hz614, hz615, hz616, hz617, hz618, hz619, hz620, hz621, hz622, hz623, hz624, hz625, hz626, hO⟩, by rw [ht99]; exact hP, hD, by rw [ht99]; exact hzz1, by rw [ht99]; exact hzz2⟩, hS.F ht99⟩) hS.2.2 dX0_assign_170
    · obtain ⟨t9, ht9, hl9⟩ := h474.resolve_left c475
      subst ht9
      have hl : lv_has ls 5 [(3, .int (nI t9)), (0, .ref (a 4)), (1, .ref q), (2, .ref q2)] := hl
      refine lv_aload_n hx hb dX0_assign_33 rfl (lv_at hl 1 rfl) ?_
      refine lv_aload_n hx hb dX0_assign_34 rfl (lv_at hl 3 rfl) ?_
      refine lv_aload_n hx hb dX0_assign_35 rfl (lv_at hl 1 rfl) ?_
      refine lv_aload_n hx hb dX0_assign_36 rfl (lv_at hl 3 rfl) ?_
      have hO : OKP G h0 a (upd (upd (upd (upd (upd (upd (upd (upd (upd (upd (upd (upd (upd F 2 (nI sz)) 5 (nI cs)) 6 (nI rg)) 7 (nI hd)) 8 (nI dp)) 12 (nI vr)) 13 as9) 16 ls9) 2 (nI sz)) 5 (nI cs)) 7 (nI hd)) 12 (nI vr)) 13 as9) (updR (updR (updR (updR (updR R 2 (.ref pq)) 3 (.ref mq)) 4 (va_rf lp9)) 2 (.ref pq)) 3 (.ref mq)) Z B J K w := hO.to rfl
      obtain ⟨_, qr630, hqr631⟩ := hO.2.1 24 _ (sg_24 G h0 a _ _ _ _ _)
      refine pn_V0 (G := G) (As := [.ref q2]) (rest := [.ref q2, .ref (a 4)]) hx hb hml hown hq hE hX pX0_al hP hD hS hA hl.1 ((PY_all l G (n - 1)) h0 a (upd (upd (upd (upd (upd (upd (upd (upd F 2 (nI sz)) 5 (nI cs)) 6 (nI rg)) 7 (nI hd)) 8 (nI dp)) 12 (nI vr)) 13 as9) 16 ls9) (updR (updR (updR R 2 (.ref pq)) 3 (.ref mq)) 4 (va_rf lp9)) Z B J K w pq dr ml nd nm cp it s9 q2 mq cs vr sz g rk pb Ag pd sl ([] : List Nat) m9 dp lw hd c0 as9 True (by omega) (BdE.wp BdE.rfl hwp) (BdE.pt BdE.rfl hwp hps) (BdE.rko BdE.rfl hrk) (by omega) (by omega) hng hmq ht1 ⟨hv1.1, (by have z9 := hv1; omega)⟩ (EkA.be BdE.rfl (BsR.rfl 7 (by decide) (by decide)) (BsR.rfl 11 (by decide) (by decide)) hek) (OwC.be BdE.rfl hmq hdr0 hcO) (NaB.be BdE.rfl BeF.rfl hwp hps.2.1 hdr0 (BsR.rfl 11 (by decide) (by decide)) hna) hen (fun _ => hst0.1) (by omega) (by show 0 + ndE g q2 ≤ 248; omega) hlf1 hO hl0) (gV pw_173 pw_174 pw_175 pw_63 pw_224) hV_X0_value qr630 0 hqr631 rfl rfl rfl (Nat.le_of_ble_eq_true rfl) dX0_assign_37 ⟨(by show 0 + 1 ≤ 1; omega), (by show 0 + 6 ≤ 6; omega)⟩ ⟨(by show (5 * (n - 1) + 34) + 1 ≤ (5 * n + 36); omega), (by show 8 + (3 + 11) + (200 * (n - 1) + 600) ≤ (200 * n + 660); omega)⟩ (fun v629 u627 H locs hw628 hP hD hS => ?_) (fun ux ce9 q9 H9 locs9 hux hP9 hD9 hS9 hce hcv hcl => pb_out ux (ThQ.up (Thx.same (Thx.same (Thx.same (Thx.same (Thx.same Thx.rfl rfl) rfl) rfl) rfl) rfl) (show RhX (updR (updR (updR R 2 (.ref pq)) 3 (.ref mq)) 4 (va_rf lp9)) (updR (updR (updR (updR (updR R 2 (.ref pq)) 3 (.ref mq)) 4 (va_rf lp9)) 2 (.ref pq)) 3 (.ref mq)) from fun k9 hk9 => by unfold updR; simp only [show ¬ k9 = 1 by omega, show ¬ k9 = 2 by omega, show ¬ k9 = 3 by omega, show ¬ k9 = 4 by omega, if_false]) hux) hnt hlocks hce hcv hcl hP9 hD9 hS9 (by show 0 + 1 ≤ 1; omega) (by show 0 + 6 ≤ 6; omega))
      obtain ⟨w, K632, B633, cs634, as635, wt636, wf637, t638, Ag639, u640⟩ := u627
      obtain ⟨hw628, h641, h642, h643, h644, h645, h646, h647, h648, h649, h650, h651, h652, hO⟩ := hw628
      have h641 : SmW B B633 cs := h641
      have h642 : BdE K K632 := h642
      have h643 : BeF K K632 := h643
      have h644 : BeL K K632 none := h644
      have h645 : BeI K K632 g q2 := h645
      have h646 : Bth B B633 := h646
      have h647 : BeR B B633 := h647
      have h648 : t638 < 128 := h648
      have h649 : cs ≤ cs634 ∧ cs634 + 0 ≤ cs + 2 * tlE g q2 := h649
      have h650 : AsE as9 as635 ∧ AsE as9 wt636 ∧ AsE as9 wf637 := h650
      have h651 : True → VaQ pb B B633 Ag Ag639 pd m9 dp lw cs cs634 as9 as635 wt636 wf637 hd sl ([] : List Nat) t638 u640 (K.2.1 0 q2) := h651
      have h652 : CaK (K.2.1 0 q2) → cs634 + 2 ≤ cs + 2 * tlE g q2 := h652
      obtain rfl : v629 = some (.int (nI t638)) := hw628
      have hf653 : K632.1 pq = 7 := (BdE.T h642 hp1 (by decide))
      have hf654 : K632.2.2.1 18 pq = some (a 1) := (BdE.C h642 (by rw [hp1]; decide) 18).trans hp2
      have hf655 : K632.2.2.1 14 pq = some dr := (BdE.C h642 (by rw [hp1]; decide) 14).trans hp3
      have hf656 : K632.1 dr = 8 := (BdE.T h642 hp4 (by decide))
      have hf657 : K632.2.2.1 15 pq = some ml := (BdE.C h642 (by rw [hp1]; decide) 15).trans hp5
      have hf658 : K632.1 ml = 5 := (BdE.T h642 hp6 (by decide))
      have hf659 : K632.2.1 24 pq = (nI nd) := (BdE.I h642 (by rw [hp1]; decide) (by decide) (by decide)).trans hp8
      have hf660 : K632.1 q = 1 := (BdE.T h642 hqT (by decide))
      have hf661 : K632.1 mq = 3 := (BdE.T h642 hmq (by decide))
      have hf662 : K632.2.1 10 mq = (nI rt) := (BdE.I h642 (by rw [hmq]; decide) (by decide) (by decide)).trans hrt
      have hf663 : K632.2.1 15 dO = (nI c0) := (BdE.I h642 (by rw [htO]; decide) (by decide) (by decide)).trans hnO
      have hf664 : K632.2.2.1 5 mq = some dO := (BdE.C h642 (by rw [hmq]; decide) 5).trans hdO
      have hf665 : K632.1 dO = 4 := (BdE.T h642 htO (by decide))
      have hf666 : K632.2.1 0 q = 5 := (BdE.I h642 (by rw [hqT]; decide) (by decide) (by decide)).trans hkd
      have hf667 : K632.2.1 1 q = tk := (BdE.I h642 (by rw [hqT]; decide) (by decide) (by decide)).trans htk
      have hf668 : K632.1 q2 = 1 := (BdE.T h642 ht1 (by decide))
      have hO : OKP G h0 a (upd (upd (upd (upd (upd (upd (upd (upd (upd (upd F 2 (nI sz)) 5 (nI cs634)) 6 (nI rg)) 7 (nI hd)) 8 (nI dp)) 12 (nI vr)) 13 as635) 14 wt636) 15 wf637) 16 ls9) (updR (updR (updR R 2 (.ref pq)) 3 (.ref mq)) 4 (va_rf lp9)) Z B633 J K632 w := hO.to rfl
      refine W.widen (k := 0) (n := 0) (by show 0 + 0 ≤ 0; omega) (by show 0 + 0 ≤ 0; omega) ?_
      refine W.eq (g2 := F0 m 40 ls [.int (nI t638), .ref q2, .ref (a 4)]) rfl ?_
      have hbe669 := BdE.trans BdE.rfl h642
      have hbb670 : Bth B B633 := Bth.trans (show Thx (upd (upd (upd (upd (upd (upd (upd (upd F 2 (nI sz)) 5 (nI cs)) 6 (nI rg)) 7 (nI hd)) 8 (nI dp)) 12 (nI vr)) 13 as9) 16 ls9) (upd (upd (upd (upd (upd (upd (upd (upd F 2 (nI sz)) 5 (nI cs)) 6 (nI rg)) 7 (nI hd)) 8 (nI dp)) 12 (nI vr)) 13 as9) 16 ls9) B B from Thx.rfl).2 h646
      have hng671 : Nng (B633 18) := h646.2 hng
      have hsw672 : ∀ x9 : Nat, x9 < cs → (B633 16) x9 = B 16 x9 := fun x9 hx9 => ((h641 x9 (by omega)).1).trans ((fun _ _ => rfl) x9 hx9)
      have hsw673 : ∀ x9 : Nat, x9 < cs → (B633 17) x9 = B 17 x9 := fun x9 hx9 => ((h641 x9 (by omega)).2.1).trans ((fun _ _ => rfl) x9 hx9)
      have hsw674 : ∀ x9 : Nat, x9 < cs → (B633 18) x9 = B 18 x9 := fun x9 hx9 => ((h641 x9 (by omega)).2.2.1).trans ((fun _ _ => rfl) x9 hx9)
      have hsw675 : ∀ x9 : Nat, x9 < cs → (B633 19) x9 = B 19 x9 := fun x9 hx9 => ((h641 x9 (by omega)).2.2.2).trans ((fun _ _ => rfl) x9 hx9)
      have hbf676 := BeF.trans BeF.rfl h643 BdE.rfl
      have hbl678 := BeL.trans BeL.rfl h644 BdE.rfl
      have hbr677 : BsR B B633 := BsR.trans BsR.rfl (BeR.bs h647)
      have hen679 : EnV (B633 26) (B633 27) nd vr hd c0 sl := EnV.of (h647 26 (by decide)) (h647 27 (by decide)) hen
      have hvs680 : VrS B B633 vr := fun i9 hi9 => ⟨(congrFun (h647 26 (by decide)) i9).trans (VrS.rfl i9 hi9).1, (congrFun (h647 27 (by decide)) i9).trans (VrS.rfl i9 hi9).2⟩
      have hao681 : AsO as635 ∧ AsO wt636 ∧ AsO wf637 := ⟨AsE.aso h650.1 hao, AsE.aso h650.2.1 hao, AsE.aso h650.2.2 hao⟩
      refine lv_aload_n hx hb dX0_assign_40 rfl (lv_at hl 1 rfl) ?_
      refine c_get (v := .ref (a 26)) (C := RX0) (Tc := TX0) (N := 13) (ci := 0) hx hb hq pin_wsX00 hown hE hP hO 24 (sg_24 G h0 a _ _ _ _ _) rfl 3 (by decide) (hq _ pw_8) (fun _ h9 => h9) rfl dX0_assign_41 ?_
      refine lv_iload_n hx hb dX0_assign_44 rfl (lv_at hl 0 rfl) ?_
      refine c_ldi (f := (B633 26)) (n := 30) (t0 := 0) hx hb hE hP hO 26 (sg_26 G h0 a _ _ _ _ _) rfl (vp_in_nI (by omega) (by decide)) dX0_assign_45 ?_
      rw [(nI_clamp (show t9 < 2 ^ 31 by omega))]
      obtain ⟨s5, t5, hs5, hs6, ht5, ht6, hsl5⟩ := EnV.var (B := B633) hen679 hl9
      have ht7 := ht6.lt hna.1.1
      refine lv_topi (fun x682 e683 => ?_)
      obtain rfl : x682 = nI t5 := e683.trans ht5
      have hO : OKP G h0 a (upd (upd (upd (upd (upd (upd (upd (upd (upd (upd (upd (upd (upd F 2 (nI sz)) 5 (nI cs)) 6 (nI rg)) 7 (nI hd)) 8 (nI dp)) 12 (nI vr)) 13 as9) 16 ls9) 5 (nI cs634)) 13 as635) 14 wt636) 15 wf637) 2 (nI sz)) (updR (updR (updR (updR R 2 (.ref pq)) 3 (.ref mq)) 4 (va_rf lp9)) 2 (.ref pq)) Z B633 J K632 w := hO.to rfl
      obtain ⟨_, qr687, hqr688⟩ := hO.2.1 24 _ (sg_24 G h0 a _ _ _ _ _)
      refine pn_V0 (G := G) (As := [.ref q2, .int (nI t638), .int (nI t5)]) (rest := []) hx hb hml hown hq hE hX pX0_al hP hD hS hA hl.1 (Y_fit l G h0 a (upd (upd (upd (upd (upd (upd (upd (upd (upd (upd (upd (upd F 2 (nI sz)) 5 (nI cs)) 6 (nI rg)) 7 (nI hd)) 8 (nI dp)) 12 (nI vr)) 13 as9) 16 ls9) 5 (nI cs634)) 13 as635) 14 wt636) 15 wf637) (updR (updR (updR R 2 (.ref pq)) 3 (.ref mq)) 4 (va_rf lp9)) Z B633 J K632 w pq dr ml nd q2 sz t638 t5 g pb (by omega) (BdE.pt hbe669 hwp hps).1 (BdE.pt hbe669 hwp hps).2.1 hf668 (by omega) hna.1.1 (NaB.be hbe669 hbf676 hwp hps.2.1 hdr0 (hbr677 11 (by decide) (by decide)) hna).1.2.2 hO hl0) (gV pw_176 pw_177 pw_178 pw_63 pw_114) hV_X0_fit qr687 0 hqr688 rfl rfl rfl (Nat.le_of_ble_eq_true rfl) dX0_assign_46 ⟨(by show 0 + 1 ≤ 1; omega), (by show 0 + 6 ≤ 6; omega)⟩ ⟨(by show 7 + 1 ≤ (5 * n + 36); omega), (by show 8 + (4 + 11) + 122 ≤ (200 * n + 660); omega)⟩ (fun v686 u684 H locs hw685 hP hD hS => ?_) (fun ux ce9 q9 H9 locs9 hux hP9 hD9 hS9 hce hcv hcl => pb_out ux (ThQ.up (Thx.same (Thx.f (Thx.f (Thx.f (Thx.f (Bth.thx hbb670) (by omega)) (by omega)) (by omega)) (by omega)) rfl) (show RhX (updR (updR (updR R 2 (.ref pq)) 3 (.ref mq)) 4 (va_rf lp9)) (updR (updR (updR (updR R 2 (.ref pq)) 3 (.ref mq)) 4 (va_rf lp9)) 2 (.ref pq)) from fun k9 hk9 => by unfold updR; simp only [show ¬ k9 = 1 by omega, show ¬ k9 = 2 by omega, show ¬ k9 = 3 by omega, show ¬ k9 = 4 by omega, if_false]) hux) hnt hlocks hce hcv hcl hP9 hD9 hS9 (by show 0 + 1 ≤ 1; omega) (by show 0 + 6 ≤ 6; omega))
      obtain ⟨w, _⟩ := u684
      obtain ⟨hw685, h689, hO⟩ := hw685
      have h689 : FtQ pb t638 t5 := h689
      obtain rfl : v686 = none := hw685
      have hO : OKP G h0 a (upd (upd (upd (upd (upd (upd (upd (upd (upd (upd F 2 (nI sz)) 5 (nI cs634)) 6 (nI rg)) 7 (nI hd)) 8 (nI dp)) 12 (nI vr)) 13 as635) 14 wt636) 15 wf637) 16 ls9) (updR (updR (updR R 2 (.ref pq)) 3 (.ref mq)) 4 (va_rf lp9)) Z B633 J K632 w := hO.to rfl
      refine W.widen (k := 0) (n := 0) (by show 0 + 0 ≤ 0; omega) (by show 0 + 0 ≤ 0; omega) ?_
      refine W.eq (g2 := F0 m 49 ls []) rfl ?_
      have hst690 : StW pb.1 pb.2.1 pb.2.2.1 pb.2.2.2 Ag Ag639 Q9 Q9 pd pd m9 dp lw cs cs634 as9 as635 hd hd sl sl gr gr (B633 16) (B633 17) (B633 18) (B633 19) (u640 :: ([] : List Nat)) := StW.ev hst0 (VaQ.ev (h651 trivial) h648 h689.1)
      have hut691 : UTb u640 (nI t638) as635 wt636 wf637 := VaQ.ut (h651 trivial) h689.1
      refine lv_aload_n hx hb dX0_assign_49 rfl (lv_at hl 1 rfl) ?_
      refine c_get (v := .ref (a 2)) (C := RX0) (Tc := TX0) (N := 13) (ci := 0) hx hb hq pin_wsX00 hown hE hP hO 24 (sg_24 G h0 a _ _ _ _ _) rfl 1 (by decide) (hq _ pw_5) (fun _ h9 => h9) rfl dX0_assign_50 ?_
      refine lv_iconst (v := 3) hx hb dX0_assign_53 (by decide) ?_
      refine lv_aload_n hx hb dX0_assign_54 rfl (lv_at hl 1 rfl) ?_
      refine c_get (v := .ref (a 27)) (C := RX0) (Tc := TX0) (N := 13) (ci := 0) hx hb hq pin_wsX00 hown hE hP hO 24 (sg_24 G h0 a _ _ _ _ _) rfl 4 (by decide) (hq _ pw_9) (fun _ h9 => h9) rfl dX0_assign_55 ?_
      refine lv_iload_n hx hb dX0_assign_58 rfl (lv_at hl 0 rfl) ?_
      refine c_ldi (f := (B633 27)) (n := 30) (t0 := 0) hx hb hE hP hO 27 (sg_27 G h0 a _ _ _ _ _) rfl (vp_in_nI (by omega) (by decide)) dX0_assign_59 ?_
      rw [(nI_clamp (show t9 < 2 ^ 31 by omega))]
      refine lv_topi (fun x692 e693 => ?_)
      obtain rfl : x692 = nI s5 := e693.trans hs5
      refine lv_iconst (v := 0) hx hb dX0_assign_60 (by decide) ?_
      have hO : OKW G h0 a (upd (upd (upd (upd (upd (upd (upd (upd (upd (upd (upd (upd F 2 (nI sz)) 5 (nI cs634)) 6 (nI rg)) 7 (nI hd)) 8 (nI dp)) 12 (nI vr)) 13 as635) 14 wt636) 15 wf637) 16 ls9) 5 (nI cs634)) 7 (nI hd)) (updR (updR (updR R 2 (.ref pq)) 3 (.ref mq)) 4 (va_rf lp9)) Z B633 J K632.1 (fun q99 x99 => x99 = rep G a K632 q99) w := hO.to rfl
      obtain ⟨_, qr697, hqr698⟩ := hO.2.1 13 _ (sg_13 G h0 a _ _ _ _ _)
      refine pc_V0 (G := G) (As := [.int 3, .int (nI s5), .int 0]) (rest := []) hx hb hml hown hq hE hX pX0_al hP hD hS hA hl.1 (Y_emit l G h0 a (upd (upd (upd (upd (upd (upd (upd (upd (upd (upd F 2 (nI sz)) 5 (nI cs634)) 6 (nI rg)) 7 (nI hd)) 8 (nI dp)) 12 (nI vr)) 13 as635) 14 wt636) 15 wf637) 16 ls9) (updR (updR (updR R 2 (.ref pq)) 3 (.ref mq)) 4 (va_rf lp9)) Z B633 J K632.1 (fun q99 x99 => x99 = rep G a K632 q99) w 3 (nI s5) 0 cs634 hd (by omega) hO) (gV pw_129 pw_130 pw_131 pw_70 pw_115) hV_X1_emit qr697 1 hqr698 rfl rfl rfl (Nat.le_of_ble_eq_true rfl) dX0_assign_61 ⟨(by show 0 + 0 ≤ 1; omega), (by show 0 + 0 ≤ 6; omega)⟩ ⟨(by show 2 + 1 ≤ (5 * n + 36); omega), (by show 8 + (4 + 11) + 60 ≤ (200 * n + 660); omega)⟩ (fun v696 u694 H locs hw695 hP hD hS => ?_)
      obtain ⟨w, _⟩ := u694
      obtain ⟨hw695, hO⟩ := hw695
      obtain rfl : v696 = none := hw695
      have hO : OKP G h0 a (upd (upd (upd (upd (upd (upd (upd (upd (upd (upd F 2 (nI sz)) 5 (nI (cs634 + 1))) 6 (nI rg)) 7 (nI hd)) 8 (nI dp)) 12 (nI vr)) 13 as635) 14 wt636) 15 wf637) 16 ls9) (updR (updR (updR R 2 (.ref pq)) 3 (.ref mq)) 4 (va_rf lp9)) Z (updA (updA (updA (updA B633 16 (upd ((B633 16)) cs634 3)) 17 (upd ((B633 17)) cs634 (nI s5))) 18 (upd ((B633 18)) cs634 0)) 19 (upd ((B633 19)) cs634 (nI hd))) J K632 w := hO.to rfl
      refine W.widen (k := 0) (n := 0) (Nat.le_of_ble_eq_true rfl) (Nat.le_of_ble_eq_true rfl) ?_
      refine W.eq (g2 := F0 m 64 ls []) rfl ?_
      have hsw699 : ∀ x9 : Nat, x9 < cs → (upd ((B633 16)) cs634 3) x9 = B 16 x9 := fun x9 hx9 => (if_neg (by omega)).trans (hsw672 x9 hx9)
      have hsw700 : ∀ x9 : Nat, x9 < cs → (upd ((B633 17)) cs634 (nI s5)) x9 = B 17 x9 := fun x9 hx9 => (if_neg (by omega)).trans (hsw673 x9 hx9)
      have hsw701 : ∀ x9 : Nat, x9 < cs → (upd ((B633 18)) cs634 0) x9 = B 18 x9 := fun x9 hx9 => (if_neg (by omega)).trans (hsw674 x9 hx9)
      have hsw702 : ∀ x9 : Nat, x9 < cs → (upd ((B633 19)) cs634 (nI hd)) x9 = B 19 x9 := fun x9 hx9 => (if_neg (by omega)).trans (hsw675 x9 hx9)
      obtain ⟨Ag703, hst704⟩ : ∃ A5 : Nat → AS, StW pb.1 pb.2.1 pb.2.2.1 pb.2.2.2 Ag A5 Q9 Q9 pd pd m9 dp lw cs (cs634 + 1) as9 as635 hd hd sl sl gr gr (upd ((B633 16)) cs634 3) (upd ((B633 17)) cs634 (nI s5)) (upd ((B633 18)) cs634 0) (upd ((B633 19)) cs634 (nI hd)) ([] : List Nat) := ⟨(upS Ag639 (cs634 + 1) (rcA as635, hd, sl, ([] : List Nat))), StW.store hst690 hs6 (by rw [hsl5]; exact tyc_900 ht6 hna.1.1) (by rw [hsl5, tyc_ne h689.2.1]; exact UTb.tlf hut691 h648 h689)⟩
      have hng705 : Nng (upd ((B633 18)) cs634 0) := Nng.set hng671 (k := 0) (by omega)
      refine lv_aload_n hx hb dX0_assign_64 rfl (lv_at hl 1 rfl) ?_
      refine lv_dup hx hb dX0_assign_65 rfl ?_
      refine c_get (v := .int as635) (C := RX0) (Tc := TX0) (N := 13) (ci := 0) hx hb hq pin_wsX00 hown hE hP hO 24 (sg_24 G h0 a _ _ _ _ _) rfl 8 (by decide) (hq _ pw_55) (fun _ h9 => h9) rfl dX0_assign_66 ?_
      refine lv_iconst (v := 1) hx hb dX0_assign_69 (by decide) ?_
      refine lv_iload_n hx hb dX0_assign_70 rfl (lv_at hl 0 rfl) ?_
      refine lv_ishl hx hb dX0_assign_71 ?_
      refine lv_topi (fun x706 e707 => ?_)
      obtain rfl : x706 = ((1 : Int32) <<< (nI t9)) := e707.trans (congrArg (fun z9 => (1 : Int32) <<< z9) (nI_and31 _ (by omega)))
      refine lv_ior hx hb dX0_assign_72 ?_
      refine lv_topi (fun x708 e709 => ?_)
      obtain rfl : x708 = (as635 ||| ((1 : Int32) <<< (nI t9))) := e709
      refine c_put (v := .int (as635 ||| ((1 : Int32) <<< (nI t9)))) (ty := .int) (C := RX0) (Tc := TX0) (N := 13) (ci := 0) hx hb hq pin_wsX00 tyX0 tyX0_ok nmX0 hown hE hP hD hS hO 24 (sg_24 G h0 a _ _ _ _ _) rfl 8 (by decide) (hq _ pw_55) (fun _ h9 => h9) rfl (by decide +kernel) rfl rfl (Nat.le_of_ble_eq_true rfl) (sf_13 G h0 a _ _ _ _ _ (as635 ||| ((1 : Int32) <<< (nI t9)))) dX0_assign_73 (fun H locs w hP hD hS hO => ?_)
      have hbi710 := AsO.bit (v := t9) hao681.1 (by omega)
      have hst711 : StW pb.1 pb.2.1 pb.2.2.1 pb.2.2.2 Ag Ag703 Q9 Q9 pd pd m9 dp lw cs (cs634 + 1) as9 (as635 ||| ((1 : Int32) <<< (nI t9))) hd hd sl sl gr gr (upd ((B633 16)) cs634 3) (upd ((B633 17)) cs634 (nI s5)) (upd ((B633 18)) cs634 0) (upd ((B633 19)) cs634 (nI hd)) ([] : List Nat) := StW.asg hst704 hbi710.2
      refine lv_goto (tgt := 170) hx hb dX0_assign_76 (by decide) ?_
      refine W_size (fun hz1 hz2 => ?_)
      refine vx_ret ?_
      have hz712 : SmW B (updA (updA (updA (updA B633 16 (upd ((B633 16)) cs634 3)) 17 (upd ((B633 17)) cs634 (nI s5))) 18 (upd ((B633 18)) cs634 0)) 19 (upd ((B633 19)) cs634 (nI hd))) cs := (fun x9 hx9 => ⟨hsw699 x9 hx9, hsw700 x9 hx9, hsw701 x9 hx9, hsw702 x9 hx9⟩)
      have hz713 : BdE K K632 := hbe669
      have hz714 : BeF K K632 := hbf676
      have hz715 : BeL K K632 none := hbl678
      have hz716 : Bth B (updA (updA (updA (updA B633 16 (upd ((B633 16)) cs634 3)) 17 (upd ((B633 17)) cs634 (nI s5))) 18 (upd ((B633 18)) cs634 0)) 19 (upd ((B633 19)) cs634 (nI hd))) := (show Thx (upd (upd (upd (upd (upd (upd (upd (upd F 2 (nI sz)) 5 (nI cs)) 6 (nI rg)) 7 (nI hd)) 8 (nI dp)) 12 (nI vr)) 13 as9) 16 ls9) (upd (upd (upd (upd (upd (upd (upd (upd (upd (upd (upd (upd F 2 (nI sz)) 5 (nI cs)) 6 (nI rg)) 7 (nI hd)) 8 (nI dp)) 12 (nI vr)) 13 as9) 16 ls9) 5 (nI (cs634 + 1))) 13 (as635 ||| ((1 : Int32) <<< (nI t9)))) 14 wt636) 15 wf637) B (updA (updA (updA (updA B633 16 (upd ((B633 16)) cs634 3)) 17 (upd ((B633 17)) cs634 (nI s5))) 18 (upd ((B633 18)) cs634 0)) 19 (upd ((B633 19)) cs634 (nI hd))) from (Thx.b (Thx.b8 (Thx.b (Thx.b (Thx.f (Thx.f (Thx.f (Thx.f (Bth.thx hbb670) (by omega)) (by omega)) (by omega)) (by omega)) (by omega) (by decide)) (by omega) (by decide)) hng705) (by omega) (by decide))).2
      have hz717 : BsR B (updA (updA (updA (updA B633 16 (upd ((B633 16)) cs634 3)) 17 (upd ((B633 17)) cs634 (nI s5))) 18 (upd ((B633 18)) cs634 0)) 19 (upd ((B633 19)) cs634 (nI hd))) := (BsR.up (BsR.up (BsR.up (BsR.up hbr677 (by omega)) (by omega)) (by omega)) (by omega))
      have hz718 : cs ≤ (cs634 + 1) ∧ (cs634 + 1) + 1 ≤ cs + 2 * (tlE g q + tlE g q2 + 1) := (by omega)
      have hz719 : dp ≤ dp ∧ dp ≤ 71 := (by omega)
      have hz720 : vr ≤ vr ∧ vr ≤ 30 ∧ hd + vr = hd + vr := (by omega)
      have hz721 : AsO (as635 ||| ((1 : Int32) <<< (nI t9))) := hbi710.1
      have hz722 : VrS B (updA (updA (updA (updA B633 16 (upd ((B633 16)) cs634 3)) 17 (upd ((B633 17)) cs634 (nI s5))) 18 (upd ((B633 18)) cs634 0)) 19 (upd ((B633 19)) cs634 (nI hd))) vr := hvs680
      have hz723 : cs < (cs634 + 1) := (by omega)
      have hz724 : EnV ((updA (updA (updA (updA B633 16 (upd ((B633 16)) cs634 3)) 17 (upd ((B633 17)) cs634 (nI s5))) 18 (upd ((B633 18)) cs634 0)) 19 (upd ((B633 19)) cs634 (nI hd))) 26) ((updA (updA (updA (updA B633 16 (upd ((B633 16)) cs634 3)) 17 (upd ((B633 17)) cs634 (nI s5))) 18 (upd ((B633 18)) cs634 0)) 19 (upd ((B633 19)) cs634 (nI hd))) 27) nd vr hd c0 sl := hen679
      have hz725 : StW pb.1 pb.2.1 pb.2.2.1 pb.2.2.2 Ag Ag703 Q9 Q9 pd pd m9 dp lw cs (cs634 + 1) as9 (as635 ||| ((1 : Int32) <<< (nI t9))) hd hd sl sl gr gr ((updA (updA (updA (updA B633 16 (upd ((B633 16)) cs634 3)) 17 (upd ((B633 17)) cs634 (nI s5))) 18 (upd ((B633 18)) cs634 0)) 19 (upd ((B633 19)) cs634 (nI hd))) 16) ((updA (updA (updA (updA B633 16 (upd ((B633 16)) cs634 3)) 17 (upd ((B633 17)) cs634 (nI s5))) 18 (upd ((B633 18)) cs634 0)) 19 (upd ((B633 19)) cs634 (nI hd))) 17) ((updA (updA (updA (updA B633 16 (upd ((B633 16)) cs634 3)) 17 (upd ((B633 17)) cs634 (nI s5))) 18 (upd ((B633 18)) cs634 0)) 19 (upd ((B633 19)) cs634 (nI hd))) 18) ((updA (updA (updA (updA B633 16 (upd ((B633 16)) cs634 3)) 17 (upd ((B633 17)) cs634 (nI s5))) 18 (upd ((B633 18)) cs634 0)) 19 (upd ((B633 19)) cs634 (nI hd))) 19) [] := hst711
      have hz726 : hd = hd := rfl
      have hO : OKP G h0 a (upd (upd (upd (upd (upd (upd (upd (upd (upd (upd F 2 (nI sz)) 5 (nI (cs634 + 1))) 6 (nI rg)) 7 (nI hd)) 8 (nI dp)) 12 (nI vr)) 13 (as635 ||| ((1 : Int32) <<< (nI t9)))) 14 wt636) 15 wf637) 16 ls9) (updR (updR (updR R 2 (.ref pq)) 3 (.ref mq)) 4 (va_rf lp9)) Z (updA (updA (updA (updA B633 16 (upd ((B633 16)) cs634 3)) 17 (upd ((B633 17)) cs634 (nI s5))) 18 (upd ((B633 18)) cs634 0)) 19 (upd ((B633 19)) cs634 (nI hd))) J K632 w := hO.to rfl
      refine W.widen (k := 1) (n := 6) (by omega) (by omega) ?_
      have hzz1 : H.size ≤ s.heap.size + (0) := (by have z : 0 ≤ 0 := (by omega); omega)
      have hzz2 : hSl H ≤ hSl s.heap + (0) := (by have z : 0 ≤ 0 := (by omega); omega)
      exact W.vret hx hb hr (fun t99 ht99 hW99 => ⟨⟨_, (w, (K632, (updA (updA (updA (updA B633 16 (upd ((B633 16)) cs634 3)) 17 (upd ((B633 17)) cs634 (nI s5))) 18 (upd ((B633 18)) cs634 0)) 19 (upd ((B633 19)) cs634 (nI hd))), (cs634 + 1), (as635 ||| ((1 : Int32) <<< (nI t9))), wt636, wf637, vr, hd, dp, Ag703, sl)), rfl, ⟨rfl, hz712, hz713, hz714, hz715, hz716, hz717, hz718, hz719, hz720, hz721, hz722, hz723, hz724, hz725, hz726, hO⟩, by rw [ht99]; exact hP, hD, by rw [ht99]; exact hzz1, by rw [ht99]; exact hzz2⟩, hS.F ht99⟩) hS.2.2 dX0_assign_170

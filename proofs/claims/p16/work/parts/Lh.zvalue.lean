set_option maxHeartbeats 60000000 in
set_option maxRecDepth 100000 in
theorem Y_value0 (l : Launch) (G : pT) (h0 : Nat) (a : Nat → Nat) (F : Nat → Int32) (R : Nat → Value) (Z : Int64) (B : Nat → Nat → Int32) (J : Nat → Nat → Int64) (K : PK) (w : va_W) (pq : Nat) (dr : Nat) (ml : Nat) (nd : Nat) (nm : Nat) (cp : Nat) (it : Nat → Nat) (s9 : Nat) (q : Nat) (mq : Nat) (cs : Nat) (vr : Nat) (sz : Nat) (n : Nat) (g : Nat → Nat → Nat) (rk : Nat → Nat) (pb : PNb) (Ag : Nat → AS) (pd : Nat → Prop) (sl : Nat → Nat) (os : List Nat) (m9 : Nat) (sn : Nat) (lo : Nat) (hd : Nat) (c0 : Nat) (as9 : Int32) (okA : Prop) (hsz : sz ≤ 5000) (hwp : WPr G K g) (hps : PgT G K g (a 1) pq dr ml nd nm cp it s9) (hrk : RkO K rk) (hcs : cs ≤ 10000) (hvr : vr ≤ 30) (hng : Nng (B 18)) (hmq : K.1 mq = 3) (hqT : K.1 q = 1) (hqL : 1 ≤ g 0 q ∧ g 0 q ≤ n) (hek : EkA pb K g (B 7) (B 11) sz) (hcO : OwC K dr mq c0) (hna : NaB pb G K (B 11) dr nd sz) (hen : EnV (B 26) (B 27) nd vr hd c0 sl) (hem : okA → EmB pb B Ag pd m9 sn lo cs as9 hd sl os) (hrm : cs + 2 * tlE g q ≤ 10000) (hop : os.length + ndE g q ≤ 248) (hlf : 1 ≤ tlE g q ∧ 1 ≤ ndE g q) (ihv : IhY l G n) (hO : OKP G h0 a (upd (upd (upd (upd (upd F 2 (nI sz)) 5 (nI cs)) 7 (nI hd)) 12 (nI vr)) 13 as9) (updR (updR R 2 (.ref pq)) 3 (.ref mq)) Z B J K w) (hl0 : l.stackTraces = false) : PBn l G pX0 yX0_value cX0_value 3 (some .int) ({ frames := (5 * n + 34), cells := 1, slots := 6, locals := (200 * n + 600) }) [.ref (a 4), .ref q] w (fun (v : Option Value) (u : va_W × (PK × (Nat → Nat → Int32) × Nat × Int32 × Int32 × Int32 × Nat × (Nat → AS) × Nat)) => v = some (.int (nI u.2.2.2.2.2.2.2.1)) ∧ (SmW B u.2.2.1 cs) ∧ (BdE K u.2.1) ∧ (BeF K u.2.1) ∧ (BeL K u.2.1 none) ∧ (BeI K u.2.1 g q) ∧ (Bth B u.2.2.1) ∧ (BeR B u.2.2.1) ∧ (u.2.2.2.2.2.2.2.1 < 128) ∧ (cs ≤ u.2.2.2.1 ∧ u.2.2.2.1 + 0 ≤ cs + 2 * tlE g q) ∧ (AsE as9 u.2.2.2.2.1 ∧ AsE as9 u.2.2.2.2.2.1 ∧ AsE as9 u.2.2.2.2.2.2.1) ∧ (okA → VaQ pb B u.2.2.1 Ag u.2.2.2.2.2.2.2.2.1 pd m9 sn lo cs u.2.2.2.1 as9 u.2.2.2.2.1 u.2.2.2.2.2.1 u.2.2.2.2.2.2.1 hd sl os u.2.2.2.2.2.2.2.1 u.2.2.2.2.2.2.2.2.2 (K.2.1 0 q)) ∧ (CaK (K.2.1 0 q) → u.2.2.2.1 + 2 ≤ cs + 2 * tlE g q) ∧ (OKP G h0 a (upd (upd (upd (upd (upd (upd (upd F 2 (nI sz)) 5 (nI u.2.2.2.1)) 7 (nI hd)) 12 (nI vr)) 13 u.2.2.2.2.1) 14 u.2.2.2.2.2.1) 15 u.2.2.2.2.2.2.1) (updR (updR R 2 (.ref pq)) 3 (.ref mq)) Z u.2.2.1 J u.2.1 u.1)) (fun u => u.1) (fun (u : va_W × (PK × (Nat → Nat → Int32) × Nat × Int32 × Int32 × Int32 × Nat × (Nat → AS) × Nat)) => 0) (fun (u : va_W × (PK × (Nat → Nat → Int32) × Nat × Int32 × Int32 × Int32 × Nat × (Nat → AS) × Nat)) => 0) (fun (u : va_W × (Nat → Int32) × (Nat → Value) × (Nat → Nat → Int32)) => ThQ G h0 a (upd (upd (upd (upd (upd F 2 (nI sz)) 5 (nI cs)) 7 (nI hd)) 12 (nI vr)) 13 as9) (updR (updR R 2 (.ref pq)) 3 (.ref mq)) Z B J u) (fun u => u.1) := by
  intro sz
  refine vx_ofW (cc := cX0_value) (maxL := 3) (ret := (some .int)) (by decide) rfl ?_
  intro p e s m args below meth c s₁ B9 hml hnt hv
  obtain ⟨rfl, hsz, hP, hD0, hE, hX⟩ := hv
  have hx := B9.exec
  have hb := B9.bytes
  have hr := B9.returns
  have hts := atoms_spec (ws := Cond.code yX0_value cX0_value 3 (some .int) :: pw) B9.pre
  have hq : ∀ w ∈ pw, w.before _ s = true := fun w h => hts w (List.mem_cons_of_mem _ h)
  have hown : s.vm.findClass RX0 = some m.cls := findClass_of_methodNamed B9.named
  have hlocks := B9.notSynchronized
  subst hsz
  have hD := hD0.self (sz := s.heap.size)
  have hA : ∀ q : Nat, s.heap.size ≤ q → va_A w s.heap.size q := fun q h => Or.inr h
  generalize va_A w s.heap.size = A at hD hE hA ⊢
  have hS : va_S A s.heap s.heap [] := va_S.rf
  have hl := lv_entry ([.ref (a 4), .ref q]) (n := 3) (Nat.le_of_ble_eq_true rfl)
  rw [lg_entry_eq]
  generalize (lg_sl ([.ref (a 4), .ref q]) ++ List.replicate (3 - (lg_sl ([.ref (a 4), .ref q])).length) Slot.unset).toArray = ls at hl ⊢
  have hl : lv_has ls 3 [(0, .ref (a 4)), (1, .ref q)] := hl
  have hpg := hps.1
  have hp1 := hpg.1
  have hp2 := hpg.2.1
  have hp3 := hpg.2.2.1
  have hp4 := hpg.2.2.2.1
  have hp5 := hpg.2.2.2.2.1
  have hp6 := hpg.2.2.2.2.2.1
  have hp8 := hpg.2.2.2.2.2.2.2.1
  have hp9 := hpg.2.2.2.2.2.2.2.2
  have hdr0 : ¬ K.1 dr = 0 := by rw [hp4]; decide
  have hev0 : okA → EvQ pb.1 pb.2.1 pb.2.2.1 pb.2.2.2 (B 16) (B 17) (B 18) (B 19) (B 16) (B 17) (B 18) (B 19) Ag Ag pd m9 sn lo cs cs as9 as9 hd sl os := fun z => EvB.nil (hem z)
  obtain ⟨kd, hkd⟩ : ∃ z : Int32, K.2.1 0 q = z := ⟨_, rfl⟩
  obtain ⟨tk, htk⟩ : ∃ z : Int32, K.2.1 1 q = z := ⟨_, rfl⟩
  have hek9 := hek q hqT hqL.1
  refine lv_aload_n hx hb dX0_value_0 rfl (lv_at hl 1 rfl) ?_
  refine p_get (v := .int kd) (C := RX7) (Tc := TX7) (N := 11) (ci := 13) hx hb hq pin_wsX70 hown hE hP hO (by rw [hqT]; decide) (rep_1 hqT) rfl 0 (by decide) (hq _ pw_166) (fun _ h9 => h9) (congrArg (fun z => some (Value.int z)) hkd) dX0_value_1 ?_
  by_cases h1 : kd = 1
  · subst h1
    refine lv_tableIn (tgt := 109) (off := 105) hx hb dX0_value_4 (by decide) (by decide) (by decide) (by decide) ?_
    refine lv_aload_n hx hb dX0_value_109 rfl (lv_at hl 0 rfl) ?_
    refine lv_aload_n hx hb dX0_value_110 rfl (lv_at hl 1 rfl) ?_
    refine p_get (v := .int 1) (C := RX7) (Tc := TX7) (N := 11) (ci := 13) hx hb hq pin_wsX70 hown hE hP hO (by rw [hqT]; decide) (rep_1 hqT) rfl 0 (by decide) (hq _ pw_166) (fun _ h9 => h9) (congrArg (fun z => some (Value.int z)) hkd) dX0_value_111 ?_
    refine lv_iconst (v := 1) hx hb dX0_value_114 (by decide) ?_
    refine lv_icmp_ne (tgt := 122) hx hb dX0_value_115 (by decide) (fun c2 => absurd c2 (by decide)) (fun c2 => ?_)
    refine lv_iconst (v := 1) hx hb dX0_value_118 (by decide) ?_
    refine lv_goto (tgt := 123) hx hb dX0_value_119 (by decide) ?_
    have hO : OKP G h0 a (upd (upd (upd (upd (upd (upd (upd (upd (upd (upd F 2 (nI sz)) 5 (nI cs)) 7 (nI hd)) 12 (nI vr)) 13 as9) 2 (nI sz)) 5 (nI cs)) 7 (nI hd)) 12 (nI vr)) 13 as9) (updR (updR (updR (updR R 2 (.ref pq)) 3 (.ref mq)) 2 (.ref pq)) 3 (.ref mq)) Z B J K w := hO.to rfl
    obtain ⟨_, qr6, hqr7⟩ := hO.2.1 24 _ (sg_24 G h0 a _ _ _ _ _)
    refine pn_V0 (G := G) (As := [.int (nI 1)]) (rest := []) hx hb hml hown hq hE hX pX0_al hP hD hS hA hl.1 (Y_truth l G h0 a (upd (upd (upd (upd (upd F 2 (nI sz)) 5 (nI cs)) 7 (nI hd)) 12 (nI vr)) 13 as9) (updR (updR R 2 (.ref pq)) 3 (.ref mq)) Z B J K w pq dr ml nd nm cp it s9 q mq cs vr sz n 1 g rk pb Ag pd sl os m9 sn lo hd c0 as9 okA (by omega) (BdE.wp BdE.rfl hwp) (BdE.pt BdE.rfl hwp hps) (BdE.rko BdE.rfl hrk) (by omega) (by omega) hng hmq hqT hqL (EkA.be BdE.rfl (BeR.rfl 7 (by decide)) (BeR.rfl 11 (by decide)) hek) (OwC.be BdE.rfl hmq hdr0 hcO) (NaB.be BdE.rfl BeF.rfl hwp hps.2.1 hdr0 (BeR.rfl 11 (by decide)) hna) (EnV.of (BeR.rfl 26 (by decide)) (BeR.rfl 27 (by decide)) hen) (fun z => (hev0 z).1) (by omega) hop hlf (by omega) hO hl0) (gV pw_225 pw_226 pw_227 pw_63 pw_155) hV_X0_truth qr6 0 hqr7 rfl rfl rfl (Nat.le_of_ble_eq_true rfl) dX0_value_123 ⟨(by show 0 + 1 ≤ 1; omega), (by show 0 + 6 ≤ 6; omega)⟩ ⟨(by show (5 * n + 33) + 1 ≤ (5 * n + 34); omega), (by show 8 + (2 + 11) + (200 * n + 560) ≤ (200 * n + 600); omega)⟩ (fun v5 u3 H locs hw4 hP hD hS => ?_) (fun ux ce9 q9 H9 locs9 hux hP9 hD9 hS9 hce hcv hcl => pb_out ux (ThQ.up (Thx.same (Thx.same (Thx.same (Thx.same (Thx.same Thx.rfl rfl) rfl) rfl) rfl) rfl) (show RhX (updR (updR R 2 (.ref pq)) 3 (.ref mq)) (updR (updR (updR (updR R 2 (.ref pq)) 3 (.ref mq)) 2 (.ref pq)) 3 (.ref mq)) from fun k9 hk9 => by unfold updR; simp only [show ¬ k9 = 1 by omega, show ¬ k9 = 2 by omega, show ¬ k9 = 3 by omega, show ¬ k9 = 4 by omega, if_false]) hux) hnt hlocks hce hcv hcl hP9 hD9 hS9 (by show 0 + 1 ≤ 1; omega) (by show 0 + 6 ≤ 6; omega))
    obtain ⟨w, K8, B9, cs10, as11, wt12, wf13, t14, Ag15, u16⟩ := u3
    obtain ⟨hw4, h17, h18, h19, h20, h21, h22, h23, h24, h25, h26, h27, hO⟩ := hw4
    have h17 : SmW B B9 cs := h17
    have h18 : BdE K K8 := h18
    have h19 : BeF K K8 := h19
    have h20 : BeL K K8 none := h20
    have h21 : BeI K K8 g q := h21
    have h22 : Bth B B9 := h22
    have h23 : BeR B B9 := h23
    have h24 : t14 < 128 := h24
    have h25 : cs ≤ cs10 ∧ cs10 + 0 ≤ cs + 2 * tlE g q := h25
    have h26 : AsE as9 as11 ∧ AsE as9 wt12 ∧ AsE as9 wf13 := h26
    have h27 : okA → VaQ pb B B9 Ag Ag15 pd m9 sn lo cs cs10 as9 as11 wt12 wf13 hd sl os t14 u16 (K.2.1 0 q) := h27
    obtain rfl : v5 = some (.int (nI t14)) := hw4
    have hf28 : K8.1 pq = 7 := (BdE.T h18 hp1 (by decide))
    have hf29 : K8.2.2.1 18 pq = some (a 1) := (BdE.C h18 (by rw [hp1]; decide) 18).trans hp2
    have hf30 : K8.2.2.1 14 pq = some dr := (BdE.C h18 (by rw [hp1]; decide) 14).trans hp3
    have hf31 : K8.1 dr = 8 := (BdE.T h18 hp4 (by decide))
    have hf32 : K8.2.2.1 15 pq = some ml := (BdE.C h18 (by rw [hp1]; decide) 15).trans hp5
    have hf33 : K8.1 ml = 5 := (BdE.T h18 hp6 (by decide))
    have hf34 : K8.2.1 24 pq = (nI nd) := (BdE.I h18 (by rw [hp1]; decide) (by decide) (by decide)).trans hp8
    have hf35 : K8.1 q = 1 := (BdE.T h18 hqT (by decide))
    have hf36 : K8.1 mq = 3 := (BdE.T h18 hmq (by decide))
    have hf37 : K8.2.1 0 q = 1 := (BdE.I h18 (by rw [hqT]; decide) (by decide) (by decide)).trans hkd
    have hf38 : K8.2.1 1 q = tk := (BdE.I h18 (by rw [hqT]; decide) (by decide) (by decide)).trans htk
    have hO : OKP G h0 a (upd (upd (upd (upd (upd (upd (upd F 2 (nI sz)) 5 (nI cs10)) 7 (nI hd)) 12 (nI vr)) 13 as11) 14 wt12) 15 wf13) (updR (updR R 2 (.ref pq)) 3 (.ref mq)) Z B9 J K8 w := hO.to rfl
    refine W.widen (k := 0) (n := 0) (by show 0 + 0 ≤ 0; omega) (by show 0 + 0 ≤ 0; omega) ?_
    refine W.eq (g2 := F0 m 126 ls [.int (nI t14)]) rfl ?_
    have hbe39 := BdE.trans BdE.rfl h18
    have hbb40 : Bth B B9 := Bth.trans (show Thx (upd (upd (upd (upd (upd F 2 (nI sz)) 5 (nI cs)) 7 (nI hd)) 12 (nI vr)) 13 as9) (upd (upd (upd (upd (upd F 2 (nI sz)) 5 (nI cs)) 7 (nI hd)) 12 (nI vr)) 13 as9) B B from Thx.rfl).2 h22
    have hng41 : Nng (B9 18) := h22.2 hng
    have hsw42 : ∀ x9 : Nat, x9 < cs → (B9 16) x9 = B 16 x9 := fun x9 hx9 => ((h17 x9 (by omega)).1).trans ((fun _ _ => rfl) x9 hx9)
    have hsw43 : ∀ x9 : Nat, x9 < cs → (B9 17) x9 = B 17 x9 := fun x9 hx9 => ((h17 x9 (by omega)).2.1).trans ((fun _ _ => rfl) x9 hx9)
    have hsw44 : ∀ x9 : Nat, x9 < cs → (B9 18) x9 = B 18 x9 := fun x9 hx9 => ((h17 x9 (by omega)).2.2.1).trans ((fun _ _ => rfl) x9 hx9)
    have hsw45 : ∀ x9 : Nat, x9 < cs → (B9 19) x9 = B 19 x9 := fun x9 hx9 => ((h17 x9 (by omega)).2.2.2).trans ((fun _ _ => rfl) x9 hx9)
    have hbf46 := BeF.trans BeF.rfl h19 BdE.rfl
    have hbl48 := BeL.trans BeL.rfl h20 BdE.rfl
    have hbi49 := BeI.trans BeI.rfl h21 BdE.rfl InE.rfl
    have hbr47 : BeR B B9 := BeR.trans BeR.rfl h23
    have has50 : AsE as9 as11 ∧ AsE as9 wt12 ∧ AsE as9 wf13 := ⟨AsE.trans AsE.rfl h26.1, AsE.trans AsE.rfl h26.2.1, AsE.trans AsE.rfl h26.2.2⟩
    refine W_size (fun hz1 hz2 => ?_)
    refine vx_ret ?_
    have hz51 : SmW B B9 cs := (fun x9 hx9 => ⟨hsw42 x9 hx9, hsw43 x9 hx9, hsw44 x9 hx9, hsw45 x9 hx9⟩)
    have hz52 : BdE K K8 := hbe39
    have hz53 : BeF K K8 := hbf46
    have hz54 : BeL K K8 none := hbl48
    have hz55 : BeI K K8 g q := hbi49
    have hz56 : Bth B B9 := (show Thx (upd (upd (upd (upd (upd F 2 (nI sz)) 5 (nI cs)) 7 (nI hd)) 12 (nI vr)) 13 as9) (upd (upd (upd (upd (upd (upd (upd (upd (upd F 2 (nI sz)) 5 (nI cs)) 7 (nI hd)) 12 (nI vr)) 13 as9) 5 (nI cs10)) 13 as11) 14 wt12) 15 wf13) B B9 from (Thx.f (Thx.f (Thx.f (Thx.f (Bth.thx hbb40) (by omega)) (by omega)) (by omega)) (by omega))).2
    have hz57 : BeR B B9 := hbr47
    have hz58 : t14 < 128 := (by omega)
    have hz59 : cs ≤ cs10 ∧ cs10 + 0 ≤ cs + 2 * tlE g q := (by omega)
    have hz60 : AsE as9 as11 ∧ AsE as9 wt12 ∧ AsE as9 wf13 := ⟨has50.1, has50.2.1, has50.2.2⟩
    have hz61 : okA → VaQ pb B B9 Ag Ag15 pd m9 sn lo cs cs10 as9 as11 wt12 wf13 hd sl os t14 u16 (K.2.1 0 q) := h27
    have hz62 : CaK (K.2.1 0 q) → cs10 + 2 ≤ cs + 2 * tlE g q := (fun z9 => absurd z9 (by rw [hkd]; unfold CaK; decide))
    have hO : OKP G h0 a (upd (upd (upd (upd (upd (upd (upd F 2 (nI sz)) 5 (nI cs10)) 7 (nI hd)) 12 (nI vr)) 13 as11) 14 wt12) 15 wf13) (updR (updR R 2 (.ref pq)) 3 (.ref mq)) Z B9 J K8 w := hO.to rfl
    refine W.widen (k := 1) (n := 6) (by omega) (by omega) ?_
    have hzz1 : H.size ≤ s.heap.size + (0) := (by have z : 0 ≤ 0 := (by omega); omega)
    have hzz2 : hSl H ≤ hSl s.heap + (0) := (by have z : 0 ≤ 0 := (by omega); omega)
    exact W.iret (v := (nI t14)) hx hb hr (fun t99 ht99 hW99 => ⟨⟨_, (w, (K8, B9, cs10, as11, wt12, wf13, t14, Ag15, u16)), rfl, ⟨rfl, hz51, hz52, hz53, hz54, hz55, hz56, hz57, hz58, hz59, hz60, hz61, hz62, hO⟩, by rw [ht99]; exact hP, hD, by rw [ht99]; exact hzz1, by rw [ht99]; exact hzz2⟩, hS.F ht99⟩) hS.2.2 dX0_value_126
  by_cases h63 : kd = 2
  · subst h63
    refine lv_tableIn (tgt := 109) (off := 105) hx hb dX0_value_4 (by decide) (by decide) (by decide) (by decide) ?_
    refine lv_aload_n hx hb dX0_value_109 rfl (lv_at hl 0 rfl) ?_
    refine lv_aload_n hx hb dX0_value_110 rfl (lv_at hl 1 rfl) ?_
    refine p_get (v := .int 2) (C := RX7) (Tc := TX7) (N := 11) (ci := 13) hx hb hq pin_wsX70 hown hE hP hO (by rw [hqT]; decide) (rep_1 hqT) rfl 0 (by decide) (hq _ pw_166) (fun _ h9 => h9) (congrArg (fun z => some (Value.int z)) hkd) dX0_value_111 ?_
    refine lv_iconst (v := 1) hx hb dX0_value_114 (by decide) ?_
    refine lv_icmp_ne (tgt := 122) hx hb dX0_value_115 (by decide) (fun c64 => ?_) (fun c64 => absurd c64 (by decide))
    refine lv_iconst (v := 0) hx hb dX0_value_122 (by decide) ?_
    have hO : OKP G h0 a (upd (upd (upd (upd (upd (upd (upd (upd (upd (upd F 2 (nI sz)) 5 (nI cs)) 7 (nI hd)) 12 (nI vr)) 13 as9) 2 (nI sz)) 5 (nI cs)) 7 (nI hd)) 12 (nI vr)) 13 as9) (updR (updR (updR (updR R 2 (.ref pq)) 3 (.ref mq)) 2 (.ref pq)) 3 (.ref mq)) Z B J K w := hO.to rfl
    obtain ⟨_, qr68, hqr69⟩ := hO.2.1 24 _ (sg_24 G h0 a _ _ _ _ _)
    refine pn_V0 (G := G) (As := [.int (nI 0)]) (rest := []) hx hb hml hown hq hE hX pX0_al hP hD hS hA hl.1 (Y_truth l G h0 a (upd (upd (upd (upd (upd F 2 (nI sz)) 5 (nI cs)) 7 (nI hd)) 12 (nI vr)) 13 as9) (updR (updR R 2 (.ref pq)) 3 (.ref mq)) Z B J K w pq dr ml nd nm cp it s9 q mq cs vr sz n 0 g rk pb Ag pd sl os m9 sn lo hd c0 as9 okA (by omega) (BdE.wp BdE.rfl hwp) (BdE.pt BdE.rfl hwp hps) (BdE.rko BdE.rfl hrk) (by omega) (by omega) hng hmq hqT hqL (EkA.be BdE.rfl (BeR.rfl 7 (by decide)) (BeR.rfl 11 (by decide)) hek) (OwC.be BdE.rfl hmq hdr0 hcO) (NaB.be BdE.rfl BeF.rfl hwp hps.2.1 hdr0 (BeR.rfl 11 (by decide)) hna) (EnV.of (BeR.rfl 26 (by decide)) (BeR.rfl 27 (by decide)) hen) (fun z => (hev0 z).1) (by omega) hop hlf (by omega) hO hl0) (gV pw_225 pw_226 pw_227 pw_63 pw_155) hV_X0_truth qr68 0 hqr69 rfl rfl rfl (Nat.le_of_ble_eq_true rfl) dX0_value_123 ⟨(by show 0 + 1 ≤ 1; omega), (by show 0 + 6 ≤ 6; omega)⟩ ⟨(by show (5 * n + 33) + 1 ≤ (5 * n + 34); omega), (by show 8 + (2 + 11) + (200 * n + 560) ≤ (200 * n + 600); omega)⟩ (fun v67 u65 H locs hw66 hP hD hS => ?_) (fun ux ce9 q9 H9 locs9 hux hP9 hD9 hS9 hce hcv hcl => pb_out ux (ThQ.up (Thx.same (Thx.same (Thx.same (Thx.same (Thx.same Thx.rfl rfl) rfl) rfl) rfl) rfl) (show RhX (updR (updR R 2 (.ref pq)) 3 (.ref mq)) (updR (updR (updR (updR R 2 (.ref pq)) 3 (.ref mq)) 2 (.ref pq)) 3 (.ref mq)) from fun k9 hk9 => by unfold updR; simp only [show ¬ k9 = 1 by omega, show ¬ k9 = 2 by omega, show ¬ k9 = 3 by omega, show ¬ k9 = 4 by omega, if_false]) hux) hnt hlocks hce hcv hcl hP9 hD9 hS9 (by show 0 + 1 ≤ 1; omega) (by show 0 + 6 ≤ 6; omega))
    obtain ⟨w, K70, B71, cs72, as73, wt74, wf75, t76, Ag77, u78⟩ := u65
    obtain ⟨hw66, h79, h80, h81, h82, h83, h84, h85, h86, h87, h88, h89, hO⟩ := hw66
    have h79 : SmW B B71 cs := h79
    have h80 : BdE K K70 := h80
    have h81 : BeF K K70 := h81
    have h82 : BeL K K70 none := h82
    have h83 : BeI K K70 g q := h83
    have h84 : Bth B B71 := h84
    have h85 : BeR B B71 := h85
    have h86 : t76 < 128 := h86
    have h87 : cs ≤ cs72 ∧ cs72 + 0 ≤ cs + 2 * tlE g q := h87
    have h88 : AsE as9 as73 ∧ AsE as9 wt74 ∧ AsE as9 wf75 := h88
    have h89 : okA → VaQ pb B B71 Ag Ag77 pd m9 sn lo cs cs72 as9 as73 wt74 wf75 hd sl os t76 u78 (K.2.1 0 q) := h89
    obtain rfl : v67 = some (.int (nI t76)) := hw66
    have hf90 : K70.1 pq = 7 := (BdE.T h80 hp1 (by decide))
    have hf91 : K70.2.2.1 18 pq = some (a 1) := (BdE.C h80 (by rw [hp1]; decide) 18).trans hp2
    have hf92 : K70.2.2.1 14 pq = some dr := (BdE.C h80 (by rw [hp1]; decide) 14).trans hp3
    have hf93 : K70.1 dr = 8 := (BdE.T h80 hp4 (by decide))
    have hf94 : K70.2.2.1 15 pq = some ml := (BdE.C h80 (by rw [hp1]; decide) 15).trans hp5
    have hf95 : K70.1 ml = 5 := (BdE.T h80 hp6 (by decide))
    have hf96 : K70.2.1 24 pq = (nI nd) := (BdE.I h80 (by rw [hp1]; decide) (by decide) (by decide)).trans hp8
    have hf97 : K70.1 q = 1 := (BdE.T h80 hqT (by decide))
    have hf98 : K70.1 mq = 3 := (BdE.T h80 hmq (by decide))
    have hf99 : K70.2.1 0 q = 2 := (BdE.I h80 (by rw [hqT]; decide) (by decide) (by decide)).trans hkd
    have hf100 : K70.2.1 1 q = tk := (BdE.I h80 (by rw [hqT]; decide) (by decide) (by decide)).trans htk
    have hO : OKP G h0 a (upd (upd (upd (upd (upd (upd (upd F 2 (nI sz)) 5 (nI cs72)) 7 (nI hd)) 12 (nI vr)) 13 as73) 14 wt74) 15 wf75) (updR (updR R 2 (.ref pq)) 3 (.ref mq)) Z B71 J K70 w := hO.to rfl
    refine W.widen (k := 0) (n := 0) (by show 0 + 0 ≤ 0; omega) (by show 0 + 0 ≤ 0; omega) ?_
    refine W.eq (g2 := F0 m 126 ls [.int (nI t76)]) rfl ?_
    have hbe101 := BdE.trans BdE.rfl h80
    have hbb102 : Bth B B71 := Bth.trans (show Thx (upd (upd (upd (upd (upd F 2 (nI sz)) 5 (nI cs)) 7 (nI hd)) 12 (nI vr)) 13 as9) (upd (upd (upd (upd (upd F 2 (nI sz)) 5 (nI cs)) 7 (nI hd)) 12 (nI vr)) 13 as9) B B from Thx.rfl).2 h84
    have hng103 : Nng (B71 18) := h84.2 hng
    have hsw104 : ∀ x9 : Nat, x9 < cs → (B71 16) x9 = B 16 x9 := fun x9 hx9 => ((h79 x9 (by omega)).1).trans ((fun _ _ => rfl) x9 hx9)
    have hsw105 : ∀ x9 : Nat, x9 < cs → (B71 17) x9 = B 17 x9 := fun x9 hx9 => ((h79 x9 (by omega)).2.1).trans ((fun _ _ => rfl) x9 hx9)
    have hsw106 : ∀ x9 : Nat, x9 < cs → (B71 18) x9 = B 18 x9 := fun x9 hx9 => ((h79 x9 (by omega)).2.2.1).trans ((fun _ _ => rfl) x9 hx9)
    have hsw107 : ∀ x9 : Nat, x9 < cs → (B71 19) x9 = B 19 x9 := fun x9 hx9 => ((h79 x9 (by omega)).2.2.2).trans ((fun _ _ => rfl) x9 hx9)
    have hbf108 := BeF.trans BeF.rfl h81 BdE.rfl
    have hbl110 := BeL.trans BeL.rfl h82 BdE.rfl
    have hbi111 := BeI.trans BeI.rfl h83 BdE.rfl InE.rfl
    have hbr109 : BeR B B71 := BeR.trans BeR.rfl h85
    have has112 : AsE as9 as73 ∧ AsE as9 wt74 ∧ AsE as9 wf75 := ⟨AsE.trans AsE.rfl h88.1, AsE.trans AsE.rfl h88.2.1, AsE.trans AsE.rfl h88.2.2⟩
    refine W_size (fun hz1 hz2 => ?_)
    refine vx_ret ?_
    have hz113 : SmW B B71 cs := (fun x9 hx9 => ⟨hsw104 x9 hx9, hsw105 x9 hx9, hsw106 x9 hx9, hsw107 x9 hx9⟩)
    have hz114 : BdE K K70 := hbe101
    have hz115 : BeF K K70 := hbf108
    have hz116 : BeL K K70 none := hbl110
    have hz117 : BeI K K70 g q := hbi111
    have hz118 : Bth B B71 := (show Thx (upd (upd (upd (upd (upd F 2 (nI sz)) 5 (nI cs)) 7 (nI hd)) 12 (nI vr)) 13 as9) (upd (upd (upd (upd (upd (upd (upd (upd (upd F 2 (nI sz)) 5 (nI cs)) 7 (nI hd)) 12 (nI vr)) 13 as9) 5 (nI cs72)) 13 as73) 14 wt74) 15 wf75) B B71 from (Thx.f (Thx.f (Thx.f (Thx.f (Bth.thx hbb102) (by omega)) (by omega)) (by omega)) (by omega))).2
    have hz119 : BeR B B71 := hbr109
    have hz120 : t76 < 128 := (by omega)
    have hz121 : cs ≤ cs72 ∧ cs72 + 0 ≤ cs + 2 * tlE g q := (by omega)
    have hz122 : AsE as9 as73 ∧ AsE as9 wt74 ∧ AsE as9 wf75 := ⟨has112.1, has112.2.1, has112.2.2⟩
    have hz123 : okA → VaQ pb B B71 Ag Ag77 pd m9 sn lo cs cs72 as9 as73 wt74 wf75 hd sl os t76 u78 (K.2.1 0 q) := h89
    have hz124 : CaK (K.2.1 0 q) → cs72 + 2 ≤ cs + 2 * tlE g q := (fun z9 => absurd z9 (by rw [hkd]; unfold CaK; decide))
    have hO : OKP G h0 a (upd (upd (upd (upd (upd (upd (upd F 2 (nI sz)) 5 (nI cs72)) 7 (nI hd)) 12 (nI vr)) 13 as73) 14 wt74) 15 wf75) (updR (updR R 2 (.ref pq)) 3 (.ref mq)) Z B71 J K70 w := hO.to rfl
    refine W.widen (k := 1) (n := 6) (by omega) (by omega) ?_
    have hzz1 : H.size ≤ s.heap.size + (0) := (by have z : 0 ≤ 0 := (by omega); omega)
    have hzz2 : hSl H ≤ hSl s.heap + (0) := (by have z : 0 ≤ 0 := (by omega); omega)
    exact W.iret (v := (nI t76)) hx hb hr (fun t99 ht99 hW99 => ⟨⟨_, (w, (K70, B71, cs72, as73, wt74, wf75, t76, Ag77, u78)), rfl, ⟨rfl, hz113, hz114, hz115, hz116, hz117, hz118, hz119, hz120, hz121, hz122, hz123, hz124, hO⟩, by rw [ht99]; exact hP, hD, by rw [ht99]; exact hzz1, by rw [ht99]; exact hzz2⟩, hS.F ht99⟩) hS.2.2 dX0_value_126
  by_cases h125 : kd = 3
  · subst h125
    refine lv_tableIn (tgt := 292) (off := 288) hx hb dX0_value_4 (by decide) (by decide) (by decide) (by decide) ?_
    refine lv_aload_n hx hb dX0_value_292 rfl (lv_at hl 0 rfl) ?_
    refine lv_aload_n hx hb dX0_value_293 rfl (lv_at hl 1 rfl) ?_
    have hO : OKP G h0 a (upd (upd (upd (upd (upd (upd (upd (upd (upd (upd F 2 (nI sz)) 5 (nI cs)) 7 (nI hd)) 12 (nI vr)) 13 as9) 2 (nI sz)) 5 (nI cs)) 7 (nI hd)) 12 (nI vr)) 13 as9) (updR (updR (updR (updR R 2 (.ref pq)) 3 (.ref mq)) 2 (.ref pq)) 3 (.ref mq)) Z B J K w := hO.to rfl
    obtain ⟨_, qr129, hqr130⟩ := hO.2.1 24 _ (sg_24 G h0 a _ _ _ _ _)
    refine pn_V0 (G := G) (As := [.ref q]) (rest := []) hx hb hml hown hq hE hX pX0_al hP hD hS hA hl.1 (Y_single l G h0 a (upd (upd (upd (upd (upd F 2 (nI sz)) 5 (nI cs)) 7 (nI hd)) 12 (nI vr)) 13 as9) (updR (updR R 2 (.ref pq)) 3 (.ref mq)) Z B J K w pq dr ml nd nm cp it s9 q mq cs vr sz n g rk pb Ag pd sl os m9 sn lo hd c0 as9 okA (by omega) (BdE.wp BdE.rfl hwp) (BdE.pt BdE.rfl hwp hps) (BdE.rko BdE.rfl hrk) (by omega) (by omega) hng hmq hqT hqL (EkA.be BdE.rfl (BeR.rfl 7 (by decide)) (BeR.rfl 11 (by decide)) hek) (OwC.be BdE.rfl hmq hdr0 hcO) (NaB.be BdE.rfl BeF.rfl hwp hps.2.1 hdr0 (BeR.rfl 11 (by decide)) hna) (EnV.of (BeR.rfl 26 (by decide)) (BeR.rfl 27 (by decide)) hen) (fun z => (hev0 z).1) (by omega) hop hlf (by rw [hkd]; unfold CaK; decide) hek9.2.2.2.2.2.2.1 hO hl0) (gV pw_267 pw_268 pw_269 pw_63 pw_168) hV_X0_single qr129 0 hqr130 rfl rfl rfl (Nat.le_of_ble_eq_true rfl) dX0_value_294 ⟨(by show 0 + 1 ≤ 1; omega), (by show 0 + 6 ≤ 6; omega)⟩ ⟨(by show (5 * n + 33) + 1 ≤ (5 * n + 34); omega), (by show 8 + (2 + 11) + (200 * n + 560) ≤ (200 * n + 600); omega)⟩ (fun v128 u126 H locs hw127 hP hD hS => ?_) (fun ux ce9 q9 H9 locs9 hux hP9 hD9 hS9 hce hcv hcl => pb_out ux (ThQ.up (Thx.same (Thx.same (Thx.same (Thx.same (Thx.same Thx.rfl rfl) rfl) rfl) rfl) rfl) (show RhX (updR (updR R 2 (.ref pq)) 3 (.ref mq)) (updR (updR (updR (updR R 2 (.ref pq)) 3 (.ref mq)) 2 (.ref pq)) 3 (.ref mq)) from fun k9 hk9 => by unfold updR; simp only [show ¬ k9 = 1 by omega, show ¬ k9 = 2 by omega, show ¬ k9 = 3 by omega, show ¬ k9 = 4 by omega, if_false]) hux) hnt hlocks hce hcv hcl hP9 hD9 hS9 (by show 0 + 1 ≤ 1; omega) (by show 0 + 6 ≤ 6; omega))
    obtain ⟨w, K131, B132, cs133, as134, wt135, wf136, t137, Ag138⟩ := u126
    obtain ⟨hw127, h139, h140, h141, h142, h143, h144, h145, h146, h147, h148, h149, hO⟩ := hw127
    have h139 : SmW B B132 cs := h139
    have h140 : BdE K K131 := h140
    have h141 : BeF K K131 := h141
    have h142 : BeL K K131 none := h142
    have h143 : BeI K K131 g q := h143
    have h144 : Bth B B132 := h144
    have h145 : BeR B B132 := h145
    have h146 : t137 < 128 := h146
    have h147 : cs ≤ cs133 ∧ cs133 + 0 ≤ cs + 2 * tlE g q := h147
    have h148 : AsE as9 as134 := h148
    have h149 : okA → PlQ pb B B132 Ag Ag138 pd m9 sn lo cs cs133 as9 as134 hd sl os t137 (K.2.1 0 q) := h149
    obtain rfl : v128 = some (.int (nI t137)) := hw127
    have hf150 : K131.1 pq = 7 := (BdE.T h140 hp1 (by decide))
    have hf151 : K131.2.2.1 18 pq = some (a 1) := (BdE.C h140 (by rw [hp1]; decide) 18).trans hp2
    have hf152 : K131.2.2.1 14 pq = some dr := (BdE.C h140 (by rw [hp1]; decide) 14).trans hp3
    have hf153 : K131.1 dr = 8 := (BdE.T h140 hp4 (by decide))
    have hf154 : K131.2.2.1 15 pq = some ml := (BdE.C h140 (by rw [hp1]; decide) 15).trans hp5
    have hf155 : K131.1 ml = 5 := (BdE.T h140 hp6 (by decide))
    have hf156 : K131.2.1 24 pq = (nI nd) := (BdE.I h140 (by rw [hp1]; decide) (by decide) (by decide)).trans hp8
    have hf157 : K131.1 q = 1 := (BdE.T h140 hqT (by decide))
    have hf158 : K131.1 mq = 3 := (BdE.T h140 hmq (by decide))
    have hf159 : K131.2.1 0 q = 3 := (BdE.I h140 (by rw [hqT]; decide) (by decide) (by decide)).trans hkd
    have hf160 : K131.2.1 1 q = tk := (BdE.I h140 (by rw [hqT]; decide) (by decide) (by decide)).trans htk
    have hO : OKP G h0 a (upd (upd (upd (upd (upd (upd (upd F 2 (nI sz)) 5 (nI cs133)) 7 (nI hd)) 12 (nI vr)) 13 as134) 14 wt135) 15 wf136) (updR (updR R 2 (.ref pq)) 3 (.ref mq)) Z B132 J K131 w := hO.to rfl
    refine W.widen (k := 0) (n := 0) (by show 0 + 0 ≤ 0; omega) (by show 0 + 0 ≤ 0; omega) ?_
    refine W.eq (g2 := F0 m 297 ls [.int (nI t137)]) rfl ?_
    have hbe161 := BdE.trans BdE.rfl h140
    have hbb162 : Bth B B132 := Bth.trans (show Thx (upd (upd (upd (upd (upd F 2 (nI sz)) 5 (nI cs)) 7 (nI hd)) 12 (nI vr)) 13 as9) (upd (upd (upd (upd (upd F 2 (nI sz)) 5 (nI cs)) 7 (nI hd)) 12 (nI vr)) 13 as9) B B from Thx.rfl).2 h144
    have hng163 : Nng (B132 18) := h144.2 hng
    have hsw164 : ∀ x9 : Nat, x9 < cs → (B132 16) x9 = B 16 x9 := fun x9 hx9 => ((h139 x9 (by omega)).1).trans ((fun _ _ => rfl) x9 hx9)
    have hsw165 : ∀ x9 : Nat, x9 < cs → (B132 17) x9 = B 17 x9 := fun x9 hx9 => ((h139 x9 (by omega)).2.1).trans ((fun _ _ => rfl) x9 hx9)
    have hsw166 : ∀ x9 : Nat, x9 < cs → (B132 18) x9 = B 18 x9 := fun x9 hx9 => ((h139 x9 (by omega)).2.2.1).trans ((fun _ _ => rfl) x9 hx9)
    have hsw167 : ∀ x9 : Nat, x9 < cs → (B132 19) x9 = B 19 x9 := fun x9 hx9 => ((h139 x9 (by omega)).2.2.2).trans ((fun _ _ => rfl) x9 hx9)
    have hbf168 := BeF.trans BeF.rfl h141 BdE.rfl
    have hbl170 := BeL.trans BeL.rfl h142 BdE.rfl
    have hbi171 := BeI.trans BeI.rfl h143 BdE.rfl InE.rfl
    have hbr169 : BeR B B132 := BeR.trans BeR.rfl h145
    have has172 : AsE as9 as134 := AsE.trans AsE.rfl h148
    refine lv_istore_n (lv' := [(2, .int (nI t137)), (0, .ref (a 4)), (1, .ref q)]) hx hb dX0_value_297 rfl hl (by decide) rfl (fun ls hl => ?_)
    refine lv_aload_n hx hb dX0_value_298 rfl (lv_at hl 1 rfl) ?_
    refine lv_aload_n hx hb dX0_value_299 rfl (lv_at hl 1 rfl) ?_
    refine c_get (v := .int as134) (C := RX0) (Tc := TX0) (N := 13) (ci := 0) hx hb hq pin_wsX00 hown hE hP hO 24 (sg_24 G h0 a _ _ _ _ _) rfl 8 (by decide) (hq _ pw_55) (fun _ h9 => h9) rfl dX0_value_300 ?_
    refine c_put (v := .int as134) (ty := .int) (C := RX0) (Tc := TX0) (N := 13) (ci := 0) hx hb hq pin_wsX00 tyX0 tyX0_ok nmX0 hown hE hP hD hS hO 24 (sg_24 G h0 a _ _ _ _ _) rfl 9 (by decide) (hq _ pw_156) (fun _ h9 => h9) rfl (by decide +kernel) rfl rfl (Nat.le_of_ble_eq_true rfl) (sf_14 G h0 a _ _ _ _ _ as134) dX0_value_303 (fun H locs w hP hD hS hO => ?_)
    refine lv_aload_n hx hb dX0_value_306 rfl (lv_at hl 1 rfl) ?_
    refine lv_aload_n hx hb dX0_value_307 rfl (lv_at hl 1 rfl) ?_
    refine c_get (v := .int as134) (C := RX0) (Tc := TX0) (N := 13) (ci := 0) hx hb hq pin_wsX00 hown hE hP hO 24 (sg_24 G h0 a _ _ _ _ _) rfl 8 (by decide) (hq _ pw_55) (fun _ h9 => h9) rfl dX0_value_308 ?_
    refine c_put (v := .int as134) (ty := .int) (C := RX0) (Tc := TX0) (N := 13) (ci := 0) hx hb hq pin_wsX00 tyX0 tyX0_ok nmX0 hown hE hP hD hS hO 24 (sg_24 G h0 a _ _ _ _ _) rfl 10 (by decide) (hq _ pw_157) (fun _ h9 => h9) rfl (by decide +kernel) rfl rfl (Nat.le_of_ble_eq_true rfl) (sf_15 G h0 a _ _ _ _ _ as134) dX0_value_311 (fun H locs w hP hD hS hO => ?_)
    refine lv_iload_n hx hb dX0_value_314 rfl (lv_at hl 0 rfl) ?_
    refine W_size (fun hz1 hz2 => ?_)
    refine vx_ret ?_
    have hz173 : SmW B B132 cs := (fun x9 hx9 => ⟨hsw164 x9 hx9, hsw165 x9 hx9, hsw166 x9 hx9, hsw167 x9 hx9⟩)
    have hz174 : BdE K K131 := hbe161
    have hz175 : BeF K K131 := hbf168
    have hz176 : BeL K K131 none := hbl170
    have hz177 : BeI K K131 g q := hbi171
    have hz178 : Bth B B132 := (show Thx (upd (upd (upd (upd (upd F 2 (nI sz)) 5 (nI cs)) 7 (nI hd)) 12 (nI vr)) 13 as9) (upd (upd (upd (upd (upd (upd (upd (upd (upd F 2 (nI sz)) 5 (nI cs)) 7 (nI hd)) 12 (nI vr)) 13 as9) 5 (nI cs133)) 13 as134) 14 as134) 15 as134) B B132 from (Thx.f (Thx.f (Thx.f (Thx.f (Bth.thx hbb162) (by omega)) (by omega)) (by omega)) (by omega))).2
    have hz179 : BeR B B132 := hbr169
    have hz180 : t137 < 128 := (by omega)
    have hz181 : cs ≤ cs133 ∧ cs133 + 0 ≤ cs + 2 * tlE g q := (by omega)
    have hz182 : AsE as9 as134 ∧ AsE as9 as134 ∧ AsE as9 as134 := ⟨has172, has172, has172⟩
    have hz183 : okA → VaQ pb B B132 Ag Ag138 pd m9 sn lo cs cs133 as9 as134 as134 as134 hd sl os t137 t137 (K.2.1 0 q) := (fun z => PlQ.va (h149 z) h146)
    have hz184 : CaK (K.2.1 0 q) → cs133 + 2 ≤ cs + 2 * tlE g q := (fun z9 => absurd z9 (by rw [hkd]; unfold CaK; decide))
    have hO : OKP G h0 a (upd (upd (upd (upd (upd (upd (upd F 2 (nI sz)) 5 (nI cs133)) 7 (nI hd)) 12 (nI vr)) 13 as134) 14 as134) 15 as134) (updR (updR R 2 (.ref pq)) 3 (.ref mq)) Z B132 J K131 w := hO.to rfl
    refine W.widen (k := 1) (n := 6) (by omega) (by omega) ?_
    have hzz1 : H.size ≤ s.heap.size + (0) := (by have z : 0 ≤ 0 := (by omega); omega)
    have hzz2 : hSl H ≤ hSl s.heap + (0) := (by have z : 0 ≤ 0 := (by omega); omega)
    exact W.iret (v := (nI t137)) hx hb hr (fun t99 ht99 hW99 => ⟨⟨_, (w, (K131, B132, cs133, as134, as134, as134, t137, Ag138, t137)), rfl, ⟨rfl, hz173, hz174, hz175, hz176, hz177, hz178, hz179, hz180, hz181, hz182, hz183, hz184, hO⟩, by rw [ht99]; exact hP, hD, by rw [ht99]; exact hzz1, by rw [ht99]; exact hzz2⟩, hS.F ht99⟩) hS.2.2 dX0_value_315
  by_cases h185 : kd = 4
  · subst h185
    refine lv_tableIn (tgt := 292) (off := 288) hx hb dX0_value_4 (by decide) (by decide) (by decide) (by decide) ?_
    refine lv_aload_n hx hb dX0_value_292 rfl (lv_at hl 0 rfl) ?_
    refine lv_aload_n hx hb dX0_value_293 rfl (lv_at hl 1 rfl) ?_
    have hO : OKP G h0 a (upd (upd (upd (upd (upd (upd (upd (upd (upd (upd F 2 (nI sz)) 5 (nI cs)) 7 (nI hd)) 12 (nI vr)) 13 as9) 2 (nI sz)) 5 (nI cs)) 7 (nI hd)) 12 (nI vr)) 13 as9) (updR (updR (updR (updR R 2 (.ref pq)) 3 (.ref mq)) 2 (.ref pq)) 3 (.ref mq)) Z B J K w := hO.to rfl
    obtain ⟨_, qr189, hqr190⟩ := hO.2.1 24 _ (sg_24 G h0 a _ _ _ _ _)
    refine pn_V0 (G := G) (As := [.ref q]) (rest := []) hx hb hml hown hq hE hX pX0_al hP hD hS hA hl.1 (Y_single l G h0 a (upd (upd (upd (upd (upd F 2 (nI sz)) 5 (nI cs)) 7 (nI hd)) 12 (nI vr)) 13 as9) (updR (updR R 2 (.ref pq)) 3 (.ref mq)) Z B J K w pq dr ml nd nm cp it s9 q mq cs vr sz n g rk pb Ag pd sl os m9 sn lo hd c0 as9 okA (by omega) (BdE.wp BdE.rfl hwp) (BdE.pt BdE.rfl hwp hps) (BdE.rko BdE.rfl hrk) (by omega) (by omega) hng hmq hqT hqL (EkA.be BdE.rfl (BeR.rfl 7 (by decide)) (BeR.rfl 11 (by decide)) hek) (OwC.be BdE.rfl hmq hdr0 hcO) (NaB.be BdE.rfl BeF.rfl hwp hps.2.1 hdr0 (BeR.rfl 11 (by decide)) hna) (EnV.of (BeR.rfl 26 (by decide)) (BeR.rfl 27 (by decide)) hen) (fun z => (hev0 z).1) (by omega) hop hlf (by rw [hkd]; unfold CaK; decide) hek9.2.2.2.2.2.2.1 hO hl0) (gV pw_267 pw_268 pw_269 pw_63 pw_168) hV_X0_single qr189 0 hqr190 rfl rfl rfl (Nat.le_of_ble_eq_true rfl) dX0_value_294 ⟨(by show 0 + 1 ≤ 1; omega), (by show 0 + 6 ≤ 6; omega)⟩ ⟨(by show (5 * n + 33) + 1 ≤ (5 * n + 34); omega), (by show 8 + (2 + 11) + (200 * n + 560) ≤ (200 * n + 600); omega)⟩ (fun v188 u186 H locs hw187 hP hD hS => ?_) (fun ux ce9 q9 H9 locs9 hux hP9 hD9 hS9 hce hcv hcl => pb_out ux (ThQ.up (Thx.same (Thx.same (Thx.same (Thx.same (Thx.same Thx.rfl rfl) rfl) rfl) rfl) rfl) (show RhX (updR (updR R 2 (.ref pq)) 3 (.ref mq)) (updR (updR (updR (updR R 2 (.ref pq)) 3 (.ref mq)) 2 (.ref pq)) 3 (.ref mq)) from fun k9 hk9 => by unfold updR; simp only [show ¬ k9 = 1 by omega, show ¬ k9 = 2 by omega, show ¬ k9 = 3 by omega, show ¬ k9 = 4 by omega, if_false]) hux) hnt hlocks hce hcv hcl hP9 hD9 hS9 (by show 0 + 1 ≤ 1; omega) (by show 0 + 6 ≤ 6; omega))
    obtain ⟨w, K191, B192, cs193, as194, wt195, wf196, t197, Ag198⟩ := u186
    obtain ⟨hw187, h199, h200, h201, h202, h203, h204, h205, h206, h207, h208, h209, hO⟩ := hw187
    have h199 : SmW B B192 cs := h199
    have h200 : BdE K K191 := h200
    have h201 : BeF K K191 := h201
    have h202 : BeL K K191 none := h202
    have h203 : BeI K K191 g q := h203
    have h204 : Bth B B192 := h204
    have h205 : BeR B B192 := h205
    have h206 : t197 < 128 := h206
    have h207 : cs ≤ cs193 ∧ cs193 + 0 ≤ cs + 2 * tlE g q := h207
    have h208 : AsE as9 as194 := h208
    have h209 : okA → PlQ pb B B192 Ag Ag198 pd m9 sn lo cs cs193 as9 as194 hd sl os t197 (K.2.1 0 q) := h209
    obtain rfl : v188 = some (.int (nI t197)) := hw187
    have hf210 : K191.1 pq = 7 := (BdE.T h200 hp1 (by decide))
    have hf211 : K191.2.2.1 18 pq = some (a 1) := (BdE.C h200 (by rw [hp1]; decide) 18).trans hp2
    have hf212 : K191.2.2.1 14 pq = some dr := (BdE.C h200 (by rw [hp1]; decide) 14).trans hp3
    have hf213 : K191.1 dr = 8 := (BdE.T h200 hp4 (by decide))
    have hf214 : K191.2.2.1 15 pq = some ml := (BdE.C h200 (by rw [hp1]; decide) 15).trans hp5
    have hf215 : K191.1 ml = 5 := (BdE.T h200 hp6 (by decide))
    have hf216 : K191.2.1 24 pq = (nI nd) := (BdE.I h200 (by rw [hp1]; decide) (by decide) (by decide)).trans hp8
    have hf217 : K191.1 q = 1 := (BdE.T h200 hqT (by decide))
    have hf218 : K191.1 mq = 3 := (BdE.T h200 hmq (by decide))
    have hf219 : K191.2.1 0 q = 4 := (BdE.I h200 (by rw [hqT]; decide) (by decide) (by decide)).trans hkd
    have hf220 : K191.2.1 1 q = tk := (BdE.I h200 (by rw [hqT]; decide) (by decide) (by decide)).trans htk
    have hO : OKP G h0 a (upd (upd (upd (upd (upd (upd (upd F 2 (nI sz)) 5 (nI cs193)) 7 (nI hd)) 12 (nI vr)) 13 as194) 14 wt195) 15 wf196) (updR (updR R 2 (.ref pq)) 3 (.ref mq)) Z B192 J K191 w := hO.to rfl
    refine W.widen (k := 0) (n := 0) (by show 0 + 0 ≤ 0; omega) (by show 0 + 0 ≤ 0; omega) ?_
    refine W.eq (g2 := F0 m 297 ls [.int (nI t197)]) rfl ?_
    have hbe221 := BdE.trans BdE.rfl h200
    have hbb222 : Bth B B192 := Bth.trans (show Thx (upd (upd (upd (upd (upd F 2 (nI sz)) 5 (nI cs)) 7 (nI hd)) 12 (nI vr)) 13 as9) (upd (upd (upd (upd (upd F 2 (nI sz)) 5 (nI cs)) 7 (nI hd)) 12 (nI vr)) 13 as9) B B from Thx.rfl).2 h204
    have hng223 : Nng (B192 18) := h204.2 hng
    have hsw224 : ∀ x9 : Nat, x9 < cs → (B192 16) x9 = B 16 x9 := fun x9 hx9 => ((h199 x9 (by omega)).1).trans ((fun _ _ => rfl) x9 hx9)
    have hsw225 : ∀ x9 : Nat, x9 < cs → (B192 17) x9 = B 17 x9 := fun x9 hx9 => ((h199 x9 (by omega)).2.1).trans ((fun _ _ => rfl) x9 hx9)
    have hsw226 : ∀ x9 : Nat, x9 < cs → (B192 18) x9 = B 18 x9 := fun x9 hx9 => ((h199 x9 (by omega)).2.2.1).trans ((fun _ _ => rfl) x9 hx9)
    have hsw227 : ∀ x9 : Nat, x9 < cs → (B192 19) x9 = B 19 x9 := fun x9 hx9 => ((h199 x9 (by omega)).2.2.2).trans ((fun _ _ => rfl) x9 hx9)
    have hbf228 := BeF.trans BeF.rfl h201 BdE.rfl
    have hbl230 := BeL.trans BeL.rfl h202 BdE.rfl
    have hbi231 := BeI.trans BeI.rfl h203 BdE.rfl InE.rfl
    have hbr229 : BeR B B192 := BeR.trans BeR.rfl h205
    have has232 : AsE as9 as194 := AsE.trans AsE.rfl h208
    refine lv_istore_n (lv' := [(2, .int (nI t197)), (0, .ref (a 4)), (1, .ref q)]) hx hb dX0_value_297 rfl hl (by decide) rfl (fun ls hl => ?_)
    refine lv_aload_n hx hb dX0_value_298 rfl (lv_at hl 1 rfl) ?_
    refine lv_aload_n hx hb dX0_value_299 rfl (lv_at hl 1 rfl) ?_
    refine c_get (v := .int as194) (C := RX0) (Tc := TX0) (N := 13) (ci := 0) hx hb hq pin_wsX00 hown hE hP hO 24 (sg_24 G h0 a _ _ _ _ _) rfl 8 (by decide) (hq _ pw_55) (fun _ h9 => h9) rfl dX0_value_300 ?_
    refine c_put (v := .int as194) (ty := .int) (C := RX0) (Tc := TX0) (N := 13) (ci := 0) hx hb hq pin_wsX00 tyX0 tyX0_ok nmX0 hown hE hP hD hS hO 24 (sg_24 G h0 a _ _ _ _ _) rfl 9 (by decide) (hq _ pw_156) (fun _ h9 => h9) rfl (by decide +kernel) rfl rfl (Nat.le_of_ble_eq_true rfl) (sf_14 G h0 a _ _ _ _ _ as194) dX0_value_303 (fun H locs w hP hD hS hO => ?_)
    refine lv_aload_n hx hb dX0_value_306 rfl (lv_at hl 1 rfl) ?_
    refine lv_aload_n hx hb dX0_value_307 rfl (lv_at hl 1 rfl) ?_
    refine c_get (v := .int as194) (C := RX0) (Tc := TX0) (N := 13) (ci := 0) hx hb hq pin_wsX00 hown hE hP hO 24 (sg_24 G h0 a _ _ _ _ _) rfl 8 (by decide) (hq _ pw_55) (fun _ h9 => h9) rfl dX0_value_308 ?_
    refine c_put (v := .int as194) (ty := .int) (C := RX0) (Tc := TX0) (N := 13) (ci := 0) hx hb hq pin_wsX00 tyX0 tyX0_ok nmX0 hown hE hP hD hS hO 24 (sg_24 G h0 a _ _ _ _ _) rfl 10 (by decide) (hq _ pw_157) (fun _ h9 => h9) rfl (by decide +kernel) rfl rfl (Nat.le_of_ble_eq_true rfl) (sf_15 G h0 a _ _ _ _ _ as194) dX0_value_311 (fun H locs w hP hD hS hO => ?_)
    refine lv_iload_n hx hb dX0_value_314 rfl (lv_at hl 0 rfl) ?_
    refine W_size (fun hz1 hz2 => ?_)
    refine vx_ret ?_
    have hz233 : SmW B B192 cs := (fun x9 hx9 => ⟨hsw224 x9 hx9, hsw225 x9 hx9, hsw226 x9 hx9, hsw227 x9 hx9⟩)
    have hz234 : BdE K K191 := hbe221
    have hz235 : BeF K K191 := hbf228
    have hz236 : BeL K K191 none := hbl230
    have hz237 : BeI K K191 g q := hbi231
    have hz238 : Bth B B192 := (show Thx (upd (upd (upd (upd (upd F 2 (nI sz)) 5 (nI cs)) 7 (nI hd)) 12 (nI vr)) 13 as9) (upd (upd (upd (upd (upd (upd (upd (upd (upd F 2 (nI sz)) 5 (nI cs)) 7 (nI hd)) 12 (nI vr)) 13 as9) 5 (nI cs193)) 13 as194) 14 as194) 15 as194) B B192 from (Thx.f (Thx.f (Thx.f (Thx.f (Bth.thx hbb222) (by omega)) (by omega)) (by omega)) (by omega))).2
    have hz239 : BeR B B192 := hbr229
    have hz240 : t197 < 128 := (by omega)
    have hz241 : cs ≤ cs193 ∧ cs193 + 0 ≤ cs + 2 * tlE g q := (by omega)
    have hz242 : AsE as9 as194 ∧ AsE as9 as194 ∧ AsE as9 as194 := ⟨has232, has232, has232⟩
    have hz243 : okA → VaQ pb B B192 Ag Ag198 pd m9 sn lo cs cs193 as9 as194 as194 as194 hd sl os t197 t197 (K.2.1 0 q) := (fun z => PlQ.va (h209 z) h206)
    have hz244 : CaK (K.2.1 0 q) → cs193 + 2 ≤ cs + 2 * tlE g q := (fun z9 => absurd z9 (by rw [hkd]; unfold CaK; decide))
    have hO : OKP G h0 a (upd (upd (upd (upd (upd (upd (upd F 2 (nI sz)) 5 (nI cs193)) 7 (nI hd)) 12 (nI vr)) 13 as194) 14 as194) 15 as194) (updR (updR R 2 (.ref pq)) 3 (.ref mq)) Z B192 J K191 w := hO.to rfl
    refine W.widen (k := 1) (n := 6) (by omega) (by omega) ?_
    have hzz1 : H.size ≤ s.heap.size + (0) := (by have z : 0 ≤ 0 := (by omega); omega)
    have hzz2 : hSl H ≤ hSl s.heap + (0) := (by have z : 0 ≤ 0 := (by omega); omega)
    exact W.iret (v := (nI t197)) hx hb hr (fun t99 ht99 hW99 => ⟨⟨_, (w, (K191, B192, cs193, as194, as194, as194, t197, Ag198, t197)), rfl, ⟨rfl, hz233, hz234, hz235, hz236, hz237, hz238, hz239, hz240, hz241, hz242, hz243, hz244, hO⟩, by rw [ht99]; exact hP, hD, by rw [ht99]; exact hzz1, by rw [ht99]; exact hzz2⟩, hS.F ht99⟩) hS.2.2 dX0_value_315
  by_cases h245 : kd = 5
  · subst h245
    refine lv_tableIn (tgt := 283) (off := 279) hx hb dX0_value_4 (by decide) (by decide) (by decide) (by decide) ?_
    refine lv_aload_n hx hb dX0_value_283 rfl (lv_at hl 0 rfl) ?_
    refine lv_aload_n hx hb dX0_value_284 rfl (lv_at hl 1 rfl) ?_
    have hO : OKP G h0 a (upd (upd (upd (upd (upd (upd (upd (upd (upd (upd F 2 (nI sz)) 5 (nI cs)) 7 (nI hd)) 12 (nI vr)) 13 as9) 2 (nI sz)) 5 (nI cs)) 7 (nI hd)) 12 (nI vr)) 13 as9) (updR (updR (updR (updR R 2 (.ref pq)) 3 (.ref mq)) 2 (.ref pq)) 3 (.ref mq)) Z B J K w := hO.to rfl
    obtain ⟨_, qr249, hqr250⟩ := hO.2.1 24 _ (sg_24 G h0 a _ _ _ _ _)
    refine pn_V0 (G := G) (As := [.ref q]) (rest := []) hx hb hml hown hq hE hX pX0_al hP hD hS hA hl.1 (Y_variableValue l G h0 a (upd (upd (upd (upd (upd F 2 (nI sz)) 5 (nI cs)) 7 (nI hd)) 12 (nI vr)) 13 as9) (updR (updR R 2 (.ref pq)) 3 (.ref mq)) Z B J K w pq dr ml nd nm cp it s9 q mq cs vr sz n g rk pb Ag pd sl os m9 sn lo hd c0 as9 okA (by omega) (BdE.wp BdE.rfl hwp) (BdE.pt BdE.rfl hwp hps) (BdE.rko BdE.rfl hrk) (by omega) (by omega) hng hmq hqT hqL (EkA.be BdE.rfl (BeR.rfl 7 (by decide)) (BeR.rfl 11 (by decide)) hek) (OwC.be BdE.rfl hmq hdr0 hcO) (NaB.be BdE.rfl BeF.rfl hwp hps.2.1 hdr0 (BeR.rfl 11 (by decide)) hna) (EnV.of (BeR.rfl 26 (by decide)) (BeR.rfl 27 (by decide)) hen) (fun z => (hev0 z).1) (by omega) hop hlf hkd hO hl0) (gV pw_264 pw_265 pw_266 pw_63 pw_165) hV_X0_variableValue qr249 0 hqr250 rfl rfl rfl (Nat.le_of_ble_eq_true rfl) dX0_value_285 ⟨(by show 0 + 1 ≤ 1; omega), (by show 0 + 6 ≤ 6; omega)⟩ ⟨(by show (5 * n + 33) + 1 ≤ (5 * n + 34); omega), (by show 8 + (4 + 11) + (200 * n + 560) ≤ (200 * n + 600); omega)⟩ (fun v248 u246 H locs hw247 hP hD hS => ?_) (fun ux ce9 q9 H9 locs9 hux hP9 hD9 hS9 hce hcv hcl => pb_out ux (ThQ.up (Thx.same (Thx.same (Thx.same (Thx.same (Thx.same Thx.rfl rfl) rfl) rfl) rfl) rfl) (show RhX (updR (updR R 2 (.ref pq)) 3 (.ref mq)) (updR (updR (updR (updR R 2 (.ref pq)) 3 (.ref mq)) 2 (.ref pq)) 3 (.ref mq)) from fun k9 hk9 => by unfold updR; simp only [show ¬ k9 = 1 by omega, show ¬ k9 = 2 by omega, show ¬ k9 = 3 by omega, show ¬ k9 = 4 by omega, if_false]) hux) hnt hlocks hce hcv hcl hP9 hD9 hS9 (by show 0 + 1 ≤ 1; omega) (by show 0 + 6 ≤ 6; omega))
    obtain ⟨w, K251, B252, cs253, as254, wt255, wf256, t257, Ag258⟩ := u246
    obtain ⟨hw247, h259, h260, h261, h262, h263, h264, h265, h266, h267, h268, h269, hO⟩ := hw247
    have h259 : SmW B B252 cs := h259
    have h260 : BdE K K251 := h260
    have h261 : BeF K K251 := h261
    have h262 : BeL K K251 none := h262
    have h263 : BeI K K251 g q := h263
    have h264 : Bth B B252 := h264
    have h265 : BeR B B252 := h265
    have h266 : t257 < 128 := h266
    have h267 : cs ≤ cs253 ∧ cs253 + 0 ≤ cs + 2 * tlE g q := h267
    have h268 : AsE as9 as254 := h268
    have h269 : okA → PlQ pb B B252 Ag Ag258 pd m9 sn lo cs cs253 as9 as254 hd sl os t257 (K.2.1 0 q) := h269
    obtain rfl : v248 = some (.int (nI t257)) := hw247
    have hf270 : K251.1 pq = 7 := (BdE.T h260 hp1 (by decide))
    have hf271 : K251.2.2.1 18 pq = some (a 1) := (BdE.C h260 (by rw [hp1]; decide) 18).trans hp2
    have hf272 : K251.2.2.1 14 pq = some dr := (BdE.C h260 (by rw [hp1]; decide) 14).trans hp3
    have hf273 : K251.1 dr = 8 := (BdE.T h260 hp4 (by decide))
    have hf274 : K251.2.2.1 15 pq = some ml := (BdE.C h260 (by rw [hp1]; decide) 15).trans hp5
    have hf275 : K251.1 ml = 5 := (BdE.T h260 hp6 (by decide))
    have hf276 : K251.2.1 24 pq = (nI nd) := (BdE.I h260 (by rw [hp1]; decide) (by decide) (by decide)).trans hp8
    have hf277 : K251.1 q = 1 := (BdE.T h260 hqT (by decide))
    have hf278 : K251.1 mq = 3 := (BdE.T h260 hmq (by decide))
    have hf279 : K251.2.1 0 q = 5 := (BdE.I h260 (by rw [hqT]; decide) (by decide) (by decide)).trans hkd
    have hf280 : K251.2.1 1 q = tk := (BdE.I h260 (by rw [hqT]; decide) (by decide) (by decide)).trans htk
    have hO : OKP G h0 a (upd (upd (upd (upd (upd (upd (upd F 2 (nI sz)) 5 (nI cs253)) 7 (nI hd)) 12 (nI vr)) 13 as254) 14 wt255) 15 wf256) (updR (updR R 2 (.ref pq)) 3 (.ref mq)) Z B252 J K251 w := hO.to rfl
    refine W.widen (k := 0) (n := 0) (by show 0 + 0 ≤ 0; omega) (by show 0 + 0 ≤ 0; omega) ?_
    refine W.eq (g2 := F0 m 288 ls [.int (nI t257)]) rfl ?_
    have hbe281 := BdE.trans BdE.rfl h260
    have hbb282 : Bth B B252 := Bth.trans (show Thx (upd (upd (upd (upd (upd F 2 (nI sz)) 5 (nI cs)) 7 (nI hd)) 12 (nI vr)) 13 as9) (upd (upd (upd (upd (upd F 2 (nI sz)) 5 (nI cs)) 7 (nI hd)) 12 (nI vr)) 13 as9) B B from Thx.rfl).2 h264
    have hng283 : Nng (B252 18) := h264.2 hng
    have hsw284 : ∀ x9 : Nat, x9 < cs → (B252 16) x9 = B 16 x9 := fun x9 hx9 => ((h259 x9 (by omega)).1).trans ((fun _ _ => rfl) x9 hx9)
    have hsw285 : ∀ x9 : Nat, x9 < cs → (B252 17) x9 = B 17 x9 := fun x9 hx9 => ((h259 x9 (by omega)).2.1).trans ((fun _ _ => rfl) x9 hx9)
    have hsw286 : ∀ x9 : Nat, x9 < cs → (B252 18) x9 = B 18 x9 := fun x9 hx9 => ((h259 x9 (by omega)).2.2.1).trans ((fun _ _ => rfl) x9 hx9)
    have hsw287 : ∀ x9 : Nat, x9 < cs → (B252 19) x9 = B 19 x9 := fun x9 hx9 => ((h259 x9 (by omega)).2.2.2).trans ((fun _ _ => rfl) x9 hx9)
    have hbf288 := BeF.trans BeF.rfl h261 BdE.rfl
    have hbl290 := BeL.trans BeL.rfl h262 BdE.rfl
    have hbi291 := BeI.trans BeI.rfl h263 BdE.rfl InE.rfl
    have hbr289 : BeR B B252 := BeR.trans BeR.rfl h265
    have has292 : AsE as9 as254 := AsE.trans AsE.rfl h268
    refine lv_istore_n (lv' := [(2, .int (nI t257)), (0, .ref (a 4)), (1, .ref q)]) hx hb dX0_value_288 rfl hl (by decide) rfl (fun ls hl => ?_)
    refine lv_goto (tgt := 298) hx hb dX0_value_289 (by decide) ?_
    refine lv_aload_n hx hb dX0_value_298 rfl (lv_at hl 1 rfl) ?_
    refine lv_aload_n hx hb dX0_value_299 rfl (lv_at hl 1 rfl) ?_
    refine c_get (v := .int as254) (C := RX0) (Tc := TX0) (N := 13) (ci := 0) hx hb hq pin_wsX00 hown hE hP hO 24 (sg_24 G h0 a _ _ _ _ _) rfl 8 (by decide) (hq _ pw_55) (fun _ h9 => h9) rfl dX0_value_300 ?_
    refine c_put (v := .int as254) (ty := .int) (C := RX0) (Tc := TX0) (N := 13) (ci := 0) hx hb hq pin_wsX00 tyX0 tyX0_ok nmX0 hown hE hP hD hS hO 24 (sg_24 G h0 a _ _ _ _ _) rfl 9 (by decide) (hq _ pw_156) (fun _ h9 => h9) rfl (by decide +kernel) rfl rfl (Nat.le_of_ble_eq_true rfl) (sf_14 G h0 a _ _ _ _ _ as254) dX0_value_303 (fun H locs w hP hD hS hO => ?_)
    refine lv_aload_n hx hb dX0_value_306 rfl (lv_at hl 1 rfl) ?_
    refine lv_aload_n hx hb dX0_value_307 rfl (lv_at hl 1 rfl) ?_
    refine c_get (v := .int as254) (C := RX0) (Tc := TX0) (N := 13) (ci := 0) hx hb hq pin_wsX00 hown hE hP hO 24 (sg_24 G h0 a _ _ _ _ _) rfl 8 (by decide) (hq _ pw_55) (fun _ h9 => h9) rfl dX0_value_308 ?_
    refine c_put (v := .int as254) (ty := .int) (C := RX0) (Tc := TX0) (N := 13) (ci := 0) hx hb hq pin_wsX00 tyX0 tyX0_ok nmX0 hown hE hP hD hS hO 24 (sg_24 G h0 a _ _ _ _ _) rfl 10 (by decide) (hq _ pw_157) (fun _ h9 => h9) rfl (by decide +kernel) rfl rfl (Nat.le_of_ble_eq_true rfl) (sf_15 G h0 a _ _ _ _ _ as254) dX0_value_311 (fun H locs w hP hD hS hO => ?_)
    refine lv_iload_n hx hb dX0_value_314 rfl (lv_at hl 0 rfl) ?_
    refine W_size (fun hz1 hz2 => ?_)
    refine vx_ret ?_
    have hz293 : SmW B B252 cs := (fun x9 hx9 => ⟨hsw284 x9 hx9, hsw285 x9 hx9, hsw286 x9 hx9, hsw287 x9 hx9⟩)
    have hz294 : BdE K K251 := hbe281
    have hz295 : BeF K K251 := hbf288
    have hz296 : BeL K K251 none := hbl290
    have hz297 : BeI K K251 g q := hbi291
    have hz298 : Bth B B252 := (show Thx (upd (upd (upd (upd (upd F 2 (nI sz)) 5 (nI cs)) 7 (nI hd)) 12 (nI vr)) 13 as9) (upd (upd (upd (upd (upd (upd (upd (upd (upd F 2 (nI sz)) 5 (nI cs)) 7 (nI hd)) 12 (nI vr)) 13 as9) 5 (nI cs253)) 13 as254) 14 as254) 15 as254) B B252 from (Thx.f (Thx.f (Thx.f (Thx.f (Bth.thx hbb282) (by omega)) (by omega)) (by omega)) (by omega))).2
    have hz299 : BeR B B252 := hbr289
    have hz300 : t257 < 128 := (by omega)
    have hz301 : cs ≤ cs253 ∧ cs253 + 0 ≤ cs + 2 * tlE g q := (by omega)
    have hz302 : AsE as9 as254 ∧ AsE as9 as254 ∧ AsE as9 as254 := ⟨has292, has292, has292⟩
    have hz303 : okA → VaQ pb B B252 Ag Ag258 pd m9 sn lo cs cs253 as9 as254 as254 as254 hd sl os t257 t257 (K.2.1 0 q) := (fun z => PlQ.va (h269 z) h266)
    have hz304 : CaK (K.2.1 0 q) → cs253 + 2 ≤ cs + 2 * tlE g q := (fun z9 => absurd z9 (by rw [hkd]; unfold CaK; decide))
    have hO : OKP G h0 a (upd (upd (upd (upd (upd (upd (upd F 2 (nI sz)) 5 (nI cs253)) 7 (nI hd)) 12 (nI vr)) 13 as254) 14 as254) 15 as254) (updR (updR R 2 (.ref pq)) 3 (.ref mq)) Z B252 J K251 w := hO.to rfl
    refine W.widen (k := 1) (n := 6) (by omega) (by omega) ?_
    have hzz1 : H.size ≤ s.heap.size + (0) := (by have z : 0 ≤ 0 := (by omega); omega)
    have hzz2 : hSl H ≤ hSl s.heap + (0) := (by have z : 0 ≤ 0 := (by omega); omega)
    exact W.iret (v := (nI t257)) hx hb hr (fun t99 ht99 hW99 => ⟨⟨_, (w, (K251, B252, cs253, as254, as254, as254, t257, Ag258, t257)), rfl, ⟨rfl, hz293, hz294, hz295, hz296, hz297, hz298, hz299, hz300, hz301, hz302, hz303, hz304, hO⟩, by rw [ht99]; exact hP, hD, by rw [ht99]; exact hzz1, by rw [ht99]; exact hzz2⟩, hS.F ht99⟩) hS.2.2 dX0_value_315
  by_cases h305 : kd = 6
  · subst h305
    refine lv_tableIn (tgt := 292) (off := 288) hx hb dX0_value_4 (by decide) (by decide) (by decide) (by decide) ?_
    refine lv_aload_n hx hb dX0_value_292 rfl (lv_at hl 0 rfl) ?_
    refine lv_aload_n hx hb dX0_value_293 rfl (lv_at hl 1 rfl) ?_
    have hO : OKP G h0 a (upd (upd (upd (upd (upd (upd (upd (upd (upd (upd F 2 (nI sz)) 5 (nI cs)) 7 (nI hd)) 12 (nI vr)) 13 as9) 2 (nI sz)) 5 (nI cs)) 7 (nI hd)) 12 (nI vr)) 13 as9) (updR (updR (updR (updR R 2 (.ref pq)) 3 (.ref mq)) 2 (.ref pq)) 3 (.ref mq)) Z B J K w := hO.to rfl
    obtain ⟨_, qr309, hqr310⟩ := hO.2.1 24 _ (sg_24 G h0 a _ _ _ _ _)
    refine pn_V0 (G := G) (As := [.ref q]) (rest := []) hx hb hml hown hq hE hX pX0_al hP hD hS hA hl.1 (Y_single l G h0 a (upd (upd (upd (upd (upd F 2 (nI sz)) 5 (nI cs)) 7 (nI hd)) 12 (nI vr)) 13 as9) (updR (updR R 2 (.ref pq)) 3 (.ref mq)) Z B J K w pq dr ml nd nm cp it s9 q mq cs vr sz n g rk pb Ag pd sl os m9 sn lo hd c0 as9 okA (by omega) (BdE.wp BdE.rfl hwp) (BdE.pt BdE.rfl hwp hps) (BdE.rko BdE.rfl hrk) (by omega) (by omega) hng hmq hqT hqL (EkA.be BdE.rfl (BeR.rfl 7 (by decide)) (BeR.rfl 11 (by decide)) hek) (OwC.be BdE.rfl hmq hdr0 hcO) (NaB.be BdE.rfl BeF.rfl hwp hps.2.1 hdr0 (BeR.rfl 11 (by decide)) hna) (EnV.of (BeR.rfl 26 (by decide)) (BeR.rfl 27 (by decide)) hen) (fun z => (hev0 z).1) (by omega) hop hlf (by rw [hkd]; unfold CaK; decide) hek9.2.2.2.2.2.2.1 hO hl0) (gV pw_267 pw_268 pw_269 pw_63 pw_168) hV_X0_single qr309 0 hqr310 rfl rfl rfl (Nat.le_of_ble_eq_true rfl) dX0_value_294 ⟨(by show 0 + 1 ≤ 1; omega), (by show 0 + 6 ≤ 6; omega)⟩ ⟨(by show (5 * n + 33) + 1 ≤ (5 * n + 34); omega), (by show 8 + (2 + 11) + (200 * n + 560) ≤ (200 * n + 600); omega)⟩ (fun v308 u306 H locs hw307 hP hD hS => ?_) (fun ux ce9 q9 H9 locs9 hux hP9 hD9 hS9 hce hcv hcl => pb_out ux (ThQ.up (Thx.same (Thx.same (Thx.same (Thx.same (Thx.same Thx.rfl rfl) rfl) rfl) rfl) rfl) (show RhX (updR (updR R 2 (.ref pq)) 3 (.ref mq)) (updR (updR (updR (updR R 2 (.ref pq)) 3 (.ref mq)) 2 (.ref pq)) 3 (.ref mq)) from fun k9 hk9 => by unfold updR; simp only [show ¬ k9 = 1 by omega, show ¬ k9 = 2 by omega, show ¬ k9 = 3 by omega, show ¬ k9 = 4 by omega, if_false]) hux) hnt hlocks hce hcv hcl hP9 hD9 hS9 (by show 0 + 1 ≤ 1; omega) (by show 0 + 6 ≤ 6; omega))
    obtain ⟨w, K311, B312, cs313, as314, wt315, wf316, t317, Ag318⟩ := u306
    obtain ⟨hw307, h319, h320, h321, h322, h323, h324, h325, h326, h327, h328, h329, hO⟩ := hw307
    have h319 : SmW B B312 cs := h319
    have h320 : BdE K K311 := h320
    have h321 : BeF K K311 := h321
    have h322 : BeL K K311 none := h322
    have h323 : BeI K K311 g q := h323
    have h324 : Bth B B312 := h324
    have h325 : BeR B B312 := h325
    have h326 : t317 < 128 := h326
    have h327 : cs ≤ cs313 ∧ cs313 + 0 ≤ cs + 2 * tlE g q := h327
    have h328 : AsE as9 as314 := h328
    have h329 : okA → PlQ pb B B312 Ag Ag318 pd m9 sn lo cs cs313 as9 as314 hd sl os t317 (K.2.1 0 q) := h329
    obtain rfl : v308 = some (.int (nI t317)) := hw307
    have hf330 : K311.1 pq = 7 := (BdE.T h320 hp1 (by decide))
    have hf331 : K311.2.2.1 18 pq = some (a 1) := (BdE.C h320 (by rw [hp1]; decide) 18).trans hp2
    have hf332 : K311.2.2.1 14 pq = some dr := (BdE.C h320 (by rw [hp1]; decide) 14).trans hp3
    have hf333 : K311.1 dr = 8 := (BdE.T h320 hp4 (by decide))
    have hf334 : K311.2.2.1 15 pq = some ml := (BdE.C h320 (by rw [hp1]; decide) 15).trans hp5
    have hf335 : K311.1 ml = 5 := (BdE.T h320 hp6 (by decide))
    have hf336 : K311.2.1 24 pq = (nI nd) := (BdE.I h320 (by rw [hp1]; decide) (by decide) (by decide)).trans hp8
    have hf337 : K311.1 q = 1 := (BdE.T h320 hqT (by decide))
    have hf338 : K311.1 mq = 3 := (BdE.T h320 hmq (by decide))
    have hf339 : K311.2.1 0 q = 6 := (BdE.I h320 (by rw [hqT]; decide) (by decide) (by decide)).trans hkd
    have hf340 : K311.2.1 1 q = tk := (BdE.I h320 (by rw [hqT]; decide) (by decide) (by decide)).trans htk
    have hO : OKP G h0 a (upd (upd (upd (upd (upd (upd (upd F 2 (nI sz)) 5 (nI cs313)) 7 (nI hd)) 12 (nI vr)) 13 as314) 14 wt315) 15 wf316) (updR (updR R 2 (.ref pq)) 3 (.ref mq)) Z B312 J K311 w := hO.to rfl
    refine W.widen (k := 0) (n := 0) (by show 0 + 0 ≤ 0; omega) (by show 0 + 0 ≤ 0; omega) ?_
    refine W.eq (g2 := F0 m 297 ls [.int (nI t317)]) rfl ?_
    have hbe341 := BdE.trans BdE.rfl h320
    have hbb342 : Bth B B312 := Bth.trans (show Thx (upd (upd (upd (upd (upd F 2 (nI sz)) 5 (nI cs)) 7 (nI hd)) 12 (nI vr)) 13 as9) (upd (upd (upd (upd (upd F 2 (nI sz)) 5 (nI cs)) 7 (nI hd)) 12 (nI vr)) 13 as9) B B from Thx.rfl).2 h324
    have hng343 : Nng (B312 18) := h324.2 hng
    have hsw344 : ∀ x9 : Nat, x9 < cs → (B312 16) x9 = B 16 x9 := fun x9 hx9 => ((h319 x9 (by omega)).1).trans ((fun _ _ => rfl) x9 hx9)
    have hsw345 : ∀ x9 : Nat, x9 < cs → (B312 17) x9 = B 17 x9 := fun x9 hx9 => ((h319 x9 (by omega)).2.1).trans ((fun _ _ => rfl) x9 hx9)
    have hsw346 : ∀ x9 : Nat, x9 < cs → (B312 18) x9 = B 18 x9 := fun x9 hx9 => ((h319 x9 (by omega)).2.2.1).trans ((fun _ _ => rfl) x9 hx9)
    have hsw347 : ∀ x9 : Nat, x9 < cs → (B312 19) x9 = B 19 x9 := fun x9 hx9 => ((h319 x9 (by omega)).2.2.2).trans ((fun _ _ => rfl) x9 hx9)
    have hbf348 := BeF.trans BeF.rfl h321 BdE.rfl
    have hbl350 := BeL.trans BeL.rfl h322 BdE.rfl
    have hbi351 := BeI.trans BeI.rfl h323 BdE.rfl InE.rfl
    have hbr349 : BeR B B312 := BeR.trans BeR.rfl h325
    have has352 : AsE as9 as314 := AsE.trans AsE.rfl h328
    refine lv_istore_n (lv' := [(2, .int (nI t317)), (0, .ref (a 4)), (1, .ref q)]) hx hb dX0_value_297 rfl hl (by decide) rfl (fun ls hl => ?_)
    refine lv_aload_n hx hb dX0_value_298 rfl (lv_at hl 1 rfl) ?_
    refine lv_aload_n hx hb dX0_value_299 rfl (lv_at hl 1 rfl) ?_
    refine c_get (v := .int as314) (C := RX0) (Tc := TX0) (N := 13) (ci := 0) hx hb hq pin_wsX00 hown hE hP hO 24 (sg_24 G h0 a _ _ _ _ _) rfl 8 (by decide) (hq _ pw_55) (fun _ h9 => h9) rfl dX0_value_300 ?_
    refine c_put (v := .int as314) (ty := .int) (C := RX0) (Tc := TX0) (N := 13) (ci := 0) hx hb hq pin_wsX00 tyX0 tyX0_ok nmX0 hown hE hP hD hS hO 24 (sg_24 G h0 a _ _ _ _ _) rfl 9 (by decide) (hq _ pw_156) (fun _ h9 => h9) rfl (by decide +kernel) rfl rfl (Nat.le_of_ble_eq_true rfl) (sf_14 G h0 a _ _ _ _ _ as314) dX0_value_303 (fun H locs w hP hD hS hO => ?_)
    refine lv_aload_n hx hb dX0_value_306 rfl (lv_at hl 1 rfl) ?_
    refine lv_aload_n hx hb dX0_value_307 rfl (lv_at hl 1 rfl) ?_
    refine c_get (v := .int as314) (C := RX0) (Tc := TX0) (N := 13) (ci := 0) hx hb hq pin_wsX00 hown hE hP hO 24 (sg_24 G h0 a _ _ _ _ _) rfl 8 (by decide) (hq _ pw_55) (fun _ h9 => h9) rfl dX0_value_308 ?_
    refine c_put (v := .int as314) (ty := .int) (C := RX0) (Tc := TX0) (N := 13) (ci := 0) hx hb hq pin_wsX00 tyX0 tyX0_ok nmX0 hown hE hP hD hS hO 24 (sg_24 G h0 a _ _ _ _ _) rfl 10 (by decide) (hq _ pw_157) (fun _ h9 => h9) rfl (by decide +kernel) rfl rfl (Nat.le_of_ble_eq_true rfl) (sf_15 G h0 a _ _ _ _ _ as314) dX0_value_311 (fun H locs w hP hD hS hO => ?_)
    refine lv_iload_n hx hb dX0_value_314 rfl (lv_at hl 0 rfl) ?_
    refine W_size (fun hz1 hz2 => ?_)
    refine vx_ret ?_
    have hz353 : SmW B B312 cs := (fun x9 hx9 => ⟨hsw344 x9 hx9, hsw345 x9 hx9, hsw346 x9 hx9, hsw347 x9 hx9⟩)
    have hz354 : BdE K K311 := hbe341
    have hz355 : BeF K K311 := hbf348
    have hz356 : BeL K K311 none := hbl350
    have hz357 : BeI K K311 g q := hbi351
    have hz358 : Bth B B312 := (show Thx (upd (upd (upd (upd (upd F 2 (nI sz)) 5 (nI cs)) 7 (nI hd)) 12 (nI vr)) 13 as9) (upd (upd (upd (upd (upd (upd (upd (upd (upd F 2 (nI sz)) 5 (nI cs)) 7 (nI hd)) 12 (nI vr)) 13 as9) 5 (nI cs313)) 13 as314) 14 as314) 15 as314) B B312 from (Thx.f (Thx.f (Thx.f (Thx.f (Bth.thx hbb342) (by omega)) (by omega)) (by omega)) (by omega))).2
    have hz359 : BeR B B312 := hbr349
    have hz360 : t317 < 128 := (by omega)
    have hz361 : cs ≤ cs313 ∧ cs313 + 0 ≤ cs + 2 * tlE g q := (by omega)
    have hz362 : AsE as9 as314 ∧ AsE as9 as314 ∧ AsE as9 as314 := ⟨has352, has352, has352⟩
    have hz363 : okA → VaQ pb B B312 Ag Ag318 pd m9 sn lo cs cs313 as9 as314 as314 as314 hd sl os t317 t317 (K.2.1 0 q) := (fun z => PlQ.va (h329 z) h326)
    have hz364 : CaK (K.2.1 0 q) → cs313 + 2 ≤ cs + 2 * tlE g q := (fun z9 => absurd z9 (by rw [hkd]; unfold CaK; decide))
    have hO : OKP G h0 a (upd (upd (upd (upd (upd (upd (upd F 2 (nI sz)) 5 (nI cs313)) 7 (nI hd)) 12 (nI vr)) 13 as314) 14 as314) 15 as314) (updR (updR R 2 (.ref pq)) 3 (.ref mq)) Z B312 J K311 w := hO.to rfl
    refine W.widen (k := 1) (n := 6) (by omega) (by omega) ?_
    have hzz1 : H.size ≤ s.heap.size + (0) := (by have z : 0 ≤ 0 := (by omega); omega)
    have hzz2 : hSl H ≤ hSl s.heap + (0) := (by have z : 0 ≤ 0 := (by omega); omega)
    exact W.iret (v := (nI t317)) hx hb hr (fun t99 ht99 hW99 => ⟨⟨_, (w, (K311, B312, cs313, as314, as314, as314, t317, Ag318, t317)), rfl, ⟨rfl, hz353, hz354, hz355, hz356, hz357, hz358, hz359, hz360, hz361, hz362, hz363, hz364, hO⟩, by rw [ht99]; exact hP, hD, by rw [ht99]; exact hzz1, by rw [ht99]; exact hzz2⟩, hS.F ht99⟩) hS.2.2 dX0_value_315
  by_cases h365 : kd = 7
  · subst h365
    refine lv_tableIn (tgt := 100) (off := 96) hx hb dX0_value_4 (by decide) (by decide) (by decide) (by decide) ?_
    have hnd := hwp.1 q hqT hqL.1
    obtain ⟨q1, hc0, ht0, hw0⟩ := NdO.ch hnd (f := 0) (by decide) (hnd.1.1 (by rw [hkd]; decide))
    have hv0 : 1 ≤ g 0 q1 ∧ g 0 q1 + 1 ≤ n := ⟨hw0.1, (by have z := hw0.2; omega)⟩
    obtain ⟨hlf0, htl, hnd0, hin0⟩ := hek9.1 (by rw [hkd]; decide) q1 hc0
    refine lv_aload_n hx hb dX0_value_100 rfl (lv_at hl 0 rfl) ?_
    refine lv_aload_n hx hb dX0_value_101 rfl (lv_at hl 1 rfl) ?_
    refine p_get (v := .ref q1) (C := RX7) (Tc := TX7) (N := 11) (ci := 13) hx hb hq pin_wsX70 hown hE hP hO (by rw [hqT]; decide) (rep_1 hqT) rfl 6 (by decide) (hq _ pw_180) (fun _ h9 => h9) (congrArg (fun z => some (va_rf z)) hc0) dX0_value_102 ?_
    have hO : OKP G h0 a (upd (upd (upd (upd (upd (upd (upd (upd (upd (upd F 2 (nI sz)) 5 (nI cs)) 7 (nI hd)) 12 (nI vr)) 13 as9) 2 (nI sz)) 5 (nI cs)) 7 (nI hd)) 12 (nI vr)) 13 as9) (updR (updR (updR (updR R 2 (.ref pq)) 3 (.ref mq)) 2 (.ref pq)) 3 (.ref mq)) Z B J K w := hO.to rfl
    obtain ⟨_, qr369, hqr370⟩ := hO.2.1 24 _ (sg_24 G h0 a _ _ _ _ _)
    refine pn_V0 (G := G) (As := [.ref q1]) (rest := []) hx hb hml hown hq hE hX pX0_al hP hD hS hA hl.1 ((ihv (by omega)) h0 a (upd (upd (upd (upd (upd F 2 (nI sz)) 5 (nI cs)) 7 (nI hd)) 12 (nI vr)) 13 as9) (updR (updR R 2 (.ref pq)) 3 (.ref mq)) Z B J K w pq dr ml nd nm cp it s9 q1 mq cs vr sz g rk pb Ag pd sl os m9 sn lo hd c0 as9 okA (by omega) (BdE.wp BdE.rfl hwp) (BdE.pt BdE.rfl hwp hps) (BdE.rko BdE.rfl hrk) (by omega) (by omega) hng hmq ht0 ⟨hv0.1, (by have z9 := hv0; omega)⟩ (EkA.be BdE.rfl (BeR.rfl 7 (by decide)) (BeR.rfl 11 (by decide)) hek) (OwC.be BdE.rfl hmq hdr0 hcO) (NaB.be BdE.rfl BeF.rfl hwp hps.2.1 hdr0 (BeR.rfl 11 (by decide)) hna) (EnV.of (BeR.rfl 26 (by decide)) (BeR.rfl 27 (by decide)) hen) (fun z => (hev0 z).1) (by omega) (by show os.length + ndE g q1 ≤ 248; omega) hlf0 hO hl0) (gV pw_173 pw_174 pw_175 pw_63 pw_224) hV_X0_value qr369 0 hqr370 rfl rfl rfl (Nat.le_of_ble_eq_true rfl) dX0_value_105 ⟨(by show 0 + 1 ≤ 1; omega), (by show 0 + 6 ≤ 6; omega)⟩ ⟨(by show (5 * (n - 1) + 34) + 1 ≤ (5 * n + 34); omega), (by show 8 + (3 + 11) + (200 * (n - 1) + 600) ≤ (200 * n + 600); omega)⟩ (fun v368 u366 H locs hw367 hP hD hS => ?_) (fun ux ce9 q9 H9 locs9 hux hP9 hD9 hS9 hce hcv hcl => pb_out ux (ThQ.up (Thx.same (Thx.same (Thx.same (Thx.same (Thx.same Thx.rfl rfl) rfl) rfl) rfl) rfl) (show RhX (updR (updR R 2 (.ref pq)) 3 (.ref mq)) (updR (updR (updR (updR R 2 (.ref pq)) 3 (.ref mq)) 2 (.ref pq)) 3 (.ref mq)) from fun k9 hk9 => by unfold updR; simp only [show ¬ k9 = 1 by omega, show ¬ k9 = 2 by omega, show ¬ k9 = 3 by omega, show ¬ k9 = 4 by omega, if_false]) hux) hnt hlocks hce hcv hcl hP9 hD9 hS9 (by show 0 + 1 ≤ 1; omega) (by show 0 + 6 ≤ 6; omega))
    obtain ⟨w, K371, B372, cs373, as374, wt375, wf376, t377, Ag378, u379⟩ := u366
    obtain ⟨hw367, h380, h381, h382, h383, h384, h385, h386, h387, h388, h389, h390, h391, hO⟩ := hw367
    have h380 : SmW B B372 cs := h380
    have h381 : BdE K K371 := h381
    have h382 : BeF K K371 := h382
    have h383 : BeL K K371 none := h383
    have h384 : BeI K K371 g q1 := h384
    have h385 : Bth B B372 := h385
    have h386 : BeR B B372 := h386
    have h387 : t377 < 128 := h387
    have h388 : cs ≤ cs373 ∧ cs373 + 0 ≤ cs + 2 * tlE g q1 := h388
    have h389 : AsE as9 as374 ∧ AsE as9 wt375 ∧ AsE as9 wf376 := h389
    have h390 : okA → VaQ pb B B372 Ag Ag378 pd m9 sn lo cs cs373 as9 as374 wt375 wf376 hd sl os t377 u379 (K.2.1 0 q1) := h390
    have h391 : CaK (K.2.1 0 q1) → cs373 + 2 ≤ cs + 2 * tlE g q1 := h391
    obtain rfl : v368 = some (.int (nI t377)) := hw367
    have hf392 : K371.1 pq = 7 := (BdE.T h381 hp1 (by decide))
    have hf393 : K371.2.2.1 18 pq = some (a 1) := (BdE.C h381 (by rw [hp1]; decide) 18).trans hp2
    have hf394 : K371.2.2.1 14 pq = some dr := (BdE.C h381 (by rw [hp1]; decide) 14).trans hp3
    have hf395 : K371.1 dr = 8 := (BdE.T h381 hp4 (by decide))
    have hf396 : K371.2.2.1 15 pq = some ml := (BdE.C h381 (by rw [hp1]; decide) 15).trans hp5
    have hf397 : K371.1 ml = 5 := (BdE.T h381 hp6 (by decide))
    have hf398 : K371.2.1 24 pq = (nI nd) := (BdE.I h381 (by rw [hp1]; decide) (by decide) (by decide)).trans hp8
    have hf399 : K371.1 q = 1 := (BdE.T h381 hqT (by decide))
    have hf400 : K371.1 mq = 3 := (BdE.T h381 hmq (by decide))
    have hf401 : K371.2.1 0 q = 7 := (BdE.I h381 (by rw [hqT]; decide) (by decide) (by decide)).trans hkd
    have hf402 : K371.2.1 1 q = tk := (BdE.I h381 (by rw [hqT]; decide) (by decide) (by decide)).trans htk
    have hf403 : K371.2.2.1 0 q = some q1 := (BdE.C h381 (by rw [hqT]; decide) 0).trans hc0
    have hf404 : K371.1 q1 = 1 := (BdE.T h381 ht0 (by decide))
    have hO : OKP G h0 a (upd (upd (upd (upd (upd (upd (upd F 2 (nI sz)) 5 (nI cs373)) 7 (nI hd)) 12 (nI vr)) 13 as374) 14 wt375) 15 wf376) (updR (updR R 2 (.ref pq)) 3 (.ref mq)) Z B372 J K371 w := hO.to rfl
    refine W.widen (k := 0) (n := 0) (by show 0 + 0 ≤ 0; omega) (by show 0 + 0 ≤ 0; omega) ?_
    refine W.eq (g2 := F0 m 108 ls [.int (nI t377)]) rfl ?_
    have hbe405 := BdE.trans BdE.rfl h381
    have hbb406 : Bth B B372 := Bth.trans (show Thx (upd (upd (upd (upd (upd F 2 (nI sz)) 5 (nI cs)) 7 (nI hd)) 12 (nI vr)) 13 as9) (upd (upd (upd (upd (upd F 2 (nI sz)) 5 (nI cs)) 7 (nI hd)) 12 (nI vr)) 13 as9) B B from Thx.rfl).2 h385
    have hng407 : Nng (B372 18) := h385.2 hng
    have hsw408 : ∀ x9 : Nat, x9 < cs → (B372 16) x9 = B 16 x9 := fun x9 hx9 => ((h380 x9 (by omega)).1).trans ((fun _ _ => rfl) x9 hx9)
    have hsw409 : ∀ x9 : Nat, x9 < cs → (B372 17) x9 = B 17 x9 := fun x9 hx9 => ((h380 x9 (by omega)).2.1).trans ((fun _ _ => rfl) x9 hx9)
    have hsw410 : ∀ x9 : Nat, x9 < cs → (B372 18) x9 = B 18 x9 := fun x9 hx9 => ((h380 x9 (by omega)).2.2.1).trans ((fun _ _ => rfl) x9 hx9)
    have hsw411 : ∀ x9 : Nat, x9 < cs → (B372 19) x9 = B 19 x9 := fun x9 hx9 => ((h380 x9 (by omega)).2.2.2).trans ((fun _ _ => rfl) x9 hx9)
    have hbf412 := BeF.trans BeF.rfl h382 BdE.rfl
    have hbl415 := BeL.trans BeL.rfl h383 BdE.rfl
    have hbi416 := BeI.trans BeI.rfl h384 BdE.rfl hin0
    have hbr413 : BeR B B372 := BeR.trans BeR.rfl h386
    have hpt414 : (okA ∧ ¬ t377 = 63) → EvQ pb.1 pb.2.1 pb.2.2.1 pb.2.2.2 (B 16) (B 17) (B 18) (B 19) (B372 16) (B372 17) (B372 18) (B372 19) Ag Ag378 pd m9 sn lo cs cs373 as9 as374 hd sl (u379 :: os) ∧ UTb u379 (nI t377) as374 wt375 wf376 := fun z => VaQ.part (B1 := B) (hev0 z.1) (h390 z.1) h387 z.2
    have hev417 := fun z => (hpt414 z).1
    have has418 : AsE as9 as374 ∧ AsE as9 wt375 ∧ AsE as9 wf376 := ⟨AsE.trans AsE.rfl h389.1, AsE.trans AsE.rfl h389.2.1, AsE.trans AsE.rfl h389.2.2⟩
    refine W_size (fun hz1 hz2 => ?_)
    refine vx_ret ?_
    have hz419 : SmW B B372 cs := (fun x9 hx9 => ⟨hsw408 x9 hx9, hsw409 x9 hx9, hsw410 x9 hx9, hsw411 x9 hx9⟩)
    have hz420 : BdE K K371 := hbe405
    have hz421 : BeF K K371 := hbf412
    have hz422 : BeL K K371 none := hbl415
    have hz423 : BeI K K371 g q := hbi416
    have hz424 : Bth B B372 := (show Thx (upd (upd (upd (upd (upd F 2 (nI sz)) 5 (nI cs)) 7 (nI hd)) 12 (nI vr)) 13 as9) (upd (upd (upd (upd (upd (upd (upd (upd (upd F 2 (nI sz)) 5 (nI cs)) 7 (nI hd)) 12 (nI vr)) 13 as9) 5 (nI cs373)) 13 as374) 14 wt375) 15 wf376) B B372 from (Thx.f (Thx.f (Thx.f (Thx.f (Bth.thx hbb406) (by omega)) (by omega)) (by omega)) (by omega))).2
    have hz425 : BeR B B372 := hbr413
    have hz426 : t377 < 128 := (by omega)
    have hz427 : cs ≤ cs373 ∧ cs373 + 0 ≤ cs + 2 * tlE g q := (by omega)
    have hz428 : AsE as9 as374 ∧ AsE as9 wt375 ∧ AsE as9 wf376 := ⟨has418.1, has418.2.1, has418.2.2⟩
    have hz429 : okA → VaQ pb B B372 Ag Ag378 pd m9 sn lo cs cs373 as9 as374 wt375 wf376 hd sl os t377 u379 (K.2.1 0 q) := (fun z => VaQ.grp (h390 z) (by rw [hkd]; unfold CaK; decide))
    have hz430 : CaK (K.2.1 0 q) → cs373 + 2 ≤ cs + 2 * tlE g q := (fun z9 => absurd z9 (by rw [hkd]; unfold CaK; decide))
    have hO : OKP G h0 a (upd (upd (upd (upd (upd (upd (upd F 2 (nI sz)) 5 (nI cs373)) 7 (nI hd)) 12 (nI vr)) 13 as374) 14 wt375) 15 wf376) (updR (updR R 2 (.ref pq)) 3 (.ref mq)) Z B372 J K371 w := hO.to rfl
    refine W.widen (k := 1) (n := 6) (by omega) (by omega) ?_
    have hzz1 : H.size ≤ s.heap.size + (0) := (by have z : 0 ≤ 0 := (by omega); omega)
    have hzz2 : hSl H ≤ hSl s.heap + (0) := (by have z : 0 ≤ 0 := (by omega); omega)
    exact W.iret (v := (nI t377)) hx hb hr (fun t99 ht99 hW99 => ⟨⟨_, (w, (K371, B372, cs373, as374, wt375, wf376, t377, Ag378, u379)), rfl, ⟨rfl, hz419, hz420, hz421, hz422, hz423, hz424, hz425, hz426, hz427, hz428, hz429, hz430, hO⟩, by rw [ht99]; exact hP, hD, by rw [ht99]; exact hzz1, by rw [ht99]; exact hzz2⟩, hS.F ht99⟩) hS.2.2 dX0_value_108
  by_cases h431 : kd = 8
  · subst h431
    refine lv_tableIn (tgt := 292) (off := 288) hx hb dX0_value_4 (by decide) (by decide) (by decide) (by decide) ?_
    refine lv_aload_n hx hb dX0_value_292 rfl (lv_at hl 0 rfl) ?_
    refine lv_aload_n hx hb dX0_value_293 rfl (lv_at hl 1 rfl) ?_
    have hO : OKP G h0 a (upd (upd (upd (upd (upd (upd (upd (upd (upd (upd F 2 (nI sz)) 5 (nI cs)) 7 (nI hd)) 12 (nI vr)) 13 as9) 2 (nI sz)) 5 (nI cs)) 7 (nI hd)) 12 (nI vr)) 13 as9) (updR (updR (updR (updR R 2 (.ref pq)) 3 (.ref mq)) 2 (.ref pq)) 3 (.ref mq)) Z B J K w := hO.to rfl
    obtain ⟨_, qr435, hqr436⟩ := hO.2.1 24 _ (sg_24 G h0 a _ _ _ _ _)
    refine pn_V0 (G := G) (As := [.ref q]) (rest := []) hx hb hml hown hq hE hX pX0_al hP hD hS hA hl.1 (Y_single l G h0 a (upd (upd (upd (upd (upd F 2 (nI sz)) 5 (nI cs)) 7 (nI hd)) 12 (nI vr)) 13 as9) (updR (updR R 2 (.ref pq)) 3 (.ref mq)) Z B J K w pq dr ml nd nm cp it s9 q mq cs vr sz n g rk pb Ag pd sl os m9 sn lo hd c0 as9 okA (by omega) (BdE.wp BdE.rfl hwp) (BdE.pt BdE.rfl hwp hps) (BdE.rko BdE.rfl hrk) (by omega) (by omega) hng hmq hqT hqL (EkA.be BdE.rfl (BeR.rfl 7 (by decide)) (BeR.rfl 11 (by decide)) hek) (OwC.be BdE.rfl hmq hdr0 hcO) (NaB.be BdE.rfl BeF.rfl hwp hps.2.1 hdr0 (BeR.rfl 11 (by decide)) hna) (EnV.of (BeR.rfl 26 (by decide)) (BeR.rfl 27 (by decide)) hen) (fun z => (hev0 z).1) (by omega) hop hlf (by rw [hkd]; unfold CaK; decide) hek9.2.2.2.2.2.2.1 hO hl0) (gV pw_267 pw_268 pw_269 pw_63 pw_168) hV_X0_single qr435 0 hqr436 rfl rfl rfl (Nat.le_of_ble_eq_true rfl) dX0_value_294 ⟨(by show 0 + 1 ≤ 1; omega), (by show 0 + 6 ≤ 6; omega)⟩ ⟨(by show (5 * n + 33) + 1 ≤ (5 * n + 34); omega), (by show 8 + (2 + 11) + (200 * n + 560) ≤ (200 * n + 600); omega)⟩ (fun v434 u432 H locs hw433 hP hD hS => ?_) (fun ux ce9 q9 H9 locs9 hux hP9 hD9 hS9 hce hcv hcl => pb_out ux (ThQ.up (Thx.same (Thx.same (Thx.same (Thx.same (Thx.same Thx.rfl rfl) rfl) rfl) rfl) rfl) (show RhX (updR (updR R 2 (.ref pq)) 3 (.ref mq)) (updR (updR (updR (updR R 2 (.ref pq)) 3 (.ref mq)) 2 (.ref pq)) 3 (.ref mq)) from fun k9 hk9 => by unfold updR; simp only [show ¬ k9 = 1 by omega, show ¬ k9 = 2 by omega, show ¬ k9 = 3 by omega, show ¬ k9 = 4 by omega, if_false]) hux) hnt hlocks hce hcv hcl hP9 hD9 hS9 (by show 0 + 1 ≤ 1; omega) (by show 0 + 6 ≤ 6; omega))
    obtain ⟨w, K437, B438, cs439, as440, wt441, wf442, t443, Ag444⟩ := u432
    obtain ⟨hw433, h445, h446, h447, h448, h449, h450, h451, h452, h453, h454, h455, hO⟩ := hw433
    have h445 : SmW B B438 cs := h445
    have h446 : BdE K K437 := h446
    have h447 : BeF K K437 := h447
    have h448 : BeL K K437 none := h448
    have h449 : BeI K K437 g q := h449
    have h450 : Bth B B438 := h450
    have h451 : BeR B B438 := h451
    have h452 : t443 < 128 := h452
    have h453 : cs ≤ cs439 ∧ cs439 + 0 ≤ cs + 2 * tlE g q := h453
    have h454 : AsE as9 as440 := h454
    have h455 : okA → PlQ pb B B438 Ag Ag444 pd m9 sn lo cs cs439 as9 as440 hd sl os t443 (K.2.1 0 q) := h455
    obtain rfl : v434 = some (.int (nI t443)) := hw433
    have hf456 : K437.1 pq = 7 := (BdE.T h446 hp1 (by decide))
    have hf457 : K437.2.2.1 18 pq = some (a 1) := (BdE.C h446 (by rw [hp1]; decide) 18).trans hp2
    have hf458 : K437.2.2.1 14 pq = some dr := (BdE.C h446 (by rw [hp1]; decide) 14).trans hp3
    have hf459 : K437.1 dr = 8 := (BdE.T h446 hp4 (by decide))
    have hf460 : K437.2.2.1 15 pq = some ml := (BdE.C h446 (by rw [hp1]; decide) 15).trans hp5
    have hf461 : K437.1 ml = 5 := (BdE.T h446 hp6 (by decide))
    have hf462 : K437.2.1 24 pq = (nI nd) := (BdE.I h446 (by rw [hp1]; decide) (by decide) (by decide)).trans hp8
    have hf463 : K437.1 q = 1 := (BdE.T h446 hqT (by decide))
    have hf464 : K437.1 mq = 3 := (BdE.T h446 hmq (by decide))
    have hf465 : K437.2.1 0 q = 8 := (BdE.I h446 (by rw [hqT]; decide) (by decide) (by decide)).trans hkd
    have hf466 : K437.2.1 1 q = tk := (BdE.I h446 (by rw [hqT]; decide) (by decide) (by decide)).trans htk
    have hO : OKP G h0 a (upd (upd (upd (upd (upd (upd (upd F 2 (nI sz)) 5 (nI cs439)) 7 (nI hd)) 12 (nI vr)) 13 as440) 14 wt441) 15 wf442) (updR (updR R 2 (.ref pq)) 3 (.ref mq)) Z B438 J K437 w := hO.to rfl
    refine W.widen (k := 0) (n := 0) (by show 0 + 0 ≤ 0; omega) (by show 0 + 0 ≤ 0; omega) ?_
    refine W.eq (g2 := F0 m 297 ls [.int (nI t443)]) rfl ?_
    have hbe467 := BdE.trans BdE.rfl h446
    have hbb468 : Bth B B438 := Bth.trans (show Thx (upd (upd (upd (upd (upd F 2 (nI sz)) 5 (nI cs)) 7 (nI hd)) 12 (nI vr)) 13 as9) (upd (upd (upd (upd (upd F 2 (nI sz)) 5 (nI cs)) 7 (nI hd)) 12 (nI vr)) 13 as9) B B from Thx.rfl).2 h450
    have hng469 : Nng (B438 18) := h450.2 hng
    have hsw470 : ∀ x9 : Nat, x9 < cs → (B438 16) x9 = B 16 x9 := fun x9 hx9 => ((h445 x9 (by omega)).1).trans ((fun _ _ => rfl) x9 hx9)
    have hsw471 : ∀ x9 : Nat, x9 < cs → (B438 17) x9 = B 17 x9 := fun x9 hx9 => ((h445 x9 (by omega)).2.1).trans ((fun _ _ => rfl) x9 hx9)
    have hsw472 : ∀ x9 : Nat, x9 < cs → (B438 18) x9 = B 18 x9 := fun x9 hx9 => ((h445 x9 (by omega)).2.2.1).trans ((fun _ _ => rfl) x9 hx9)
    have hsw473 : ∀ x9 : Nat, x9 < cs → (B438 19) x9 = B 19 x9 := fun x9 hx9 => ((h445 x9 (by omega)).2.2.2).trans ((fun _ _ => rfl) x9 hx9)
    have hbf474 := BeF.trans BeF.rfl h447 BdE.rfl
    have hbl476 := BeL.trans BeL.rfl h448 BdE.rfl
    have hbi477 := BeI.trans BeI.rfl h449 BdE.rfl InE.rfl
    have hbr475 : BeR B B438 := BeR.trans BeR.rfl h451
    have has478 : AsE as9 as440 := AsE.trans AsE.rfl h454
    refine lv_istore_n (lv' := [(2, .int (nI t443)), (0, .ref (a 4)), (1, .ref q)]) hx hb dX0_value_297 rfl hl (by decide) rfl (fun ls hl => ?_)
    refine lv_aload_n hx hb dX0_value_298 rfl (lv_at hl 1 rfl) ?_
    refine lv_aload_n hx hb dX0_value_299 rfl (lv_at hl 1 rfl) ?_
    refine c_get (v := .int as440) (C := RX0) (Tc := TX0) (N := 13) (ci := 0) hx hb hq pin_wsX00 hown hE hP hO 24 (sg_24 G h0 a _ _ _ _ _) rfl 8 (by decide) (hq _ pw_55) (fun _ h9 => h9) rfl dX0_value_300 ?_
    refine c_put (v := .int as440) (ty := .int) (C := RX0) (Tc := TX0) (N := 13) (ci := 0) hx hb hq pin_wsX00 tyX0 tyX0_ok nmX0 hown hE hP hD hS hO 24 (sg_24 G h0 a _ _ _ _ _) rfl 9 (by decide) (hq _ pw_156) (fun _ h9 => h9) rfl (by decide +kernel) rfl rfl (Nat.le_of_ble_eq_true rfl) (sf_14 G h0 a _ _ _ _ _ as440) dX0_value_303 (fun H locs w hP hD hS hO => ?_)
    refine lv_aload_n hx hb dX0_value_306 rfl (lv_at hl 1 rfl) ?_
    refine lv_aload_n hx hb dX0_value_307 rfl (lv_at hl 1 rfl) ?_
    refine c_get (v := .int as440) (C := RX0) (Tc := TX0) (N := 13) (ci := 0) hx hb hq pin_wsX00 hown hE hP hO 24 (sg_24 G h0 a _ _ _ _ _) rfl 8 (by decide) (hq _ pw_55) (fun _ h9 => h9) rfl dX0_value_308 ?_
    refine c_put (v := .int as440) (ty := .int) (C := RX0) (Tc := TX0) (N := 13) (ci := 0) hx hb hq pin_wsX00 tyX0 tyX0_ok nmX0 hown hE hP hD hS hO 24 (sg_24 G h0 a _ _ _ _ _) rfl 10 (by decide) (hq _ pw_157) (fun _ h9 => h9) rfl (by decide +kernel) rfl rfl (Nat.le_of_ble_eq_true rfl) (sf_15 G h0 a _ _ _ _ _ as440) dX0_value_311 (fun H locs w hP hD hS hO => ?_)
    refine lv_iload_n hx hb dX0_value_314 rfl (lv_at hl 0 rfl) ?_
    refine W_size (fun hz1 hz2 => ?_)
    refine vx_ret ?_
    have hz479 : SmW B B438 cs := (fun x9 hx9 => ⟨hsw470 x9 hx9, hsw471 x9 hx9, hsw472 x9 hx9, hsw473 x9 hx9⟩)
    have hz480 : BdE K K437 := hbe467
    have hz481 : BeF K K437 := hbf474
    have hz482 : BeL K K437 none := hbl476
    have hz483 : BeI K K437 g q := hbi477
    have hz484 : Bth B B438 := (show Thx (upd (upd (upd (upd (upd F 2 (nI sz)) 5 (nI cs)) 7 (nI hd)) 12 (nI vr)) 13 as9) (upd (upd (upd (upd (upd (upd (upd (upd (upd F 2 (nI sz)) 5 (nI cs)) 7 (nI hd)) 12 (nI vr)) 13 as9) 5 (nI cs439)) 13 as440) 14 as440) 15 as440) B B438 from (Thx.f (Thx.f (Thx.f (Thx.f (Bth.thx hbb468) (by omega)) (by omega)) (by omega)) (by omega))).2
    have hz485 : BeR B B438 := hbr475
    have hz486 : t443 < 128 := (by omega)
    have hz487 : cs ≤ cs439 ∧ cs439 + 0 ≤ cs + 2 * tlE g q := (by omega)
    have hz488 : AsE as9 as440 ∧ AsE as9 as440 ∧ AsE as9 as440 := ⟨has478, has478, has478⟩
    have hz489 : okA → VaQ pb B B438 Ag Ag444 pd m9 sn lo cs cs439 as9 as440 as440 as440 hd sl os t443 t443 (K.2.1 0 q) := (fun z => PlQ.va (h455 z) h452)
    have hz490 : CaK (K.2.1 0 q) → cs439 + 2 ≤ cs + 2 * tlE g q := (fun z9 => absurd z9 (by rw [hkd]; unfold CaK; decide))
    have hO : OKP G h0 a (upd (upd (upd (upd (upd (upd (upd F 2 (nI sz)) 5 (nI cs439)) 7 (nI hd)) 12 (nI vr)) 13 as440) 14 as440) 15 as440) (updR (updR R 2 (.ref pq)) 3 (.ref mq)) Z B438 J K437 w := hO.to rfl
    refine W.widen (k := 1) (n := 6) (by omega) (by omega) ?_
    have hzz1 : H.size ≤ s.heap.size + (0) := (by have z : 0 ≤ 0 := (by omega); omega)
    have hzz2 : hSl H ≤ hSl s.heap + (0) := (by have z : 0 ≤ 0 := (by omega); omega)
    exact W.iret (v := (nI t443)) hx hb hr (fun t99 ht99 hW99 => ⟨⟨_, (w, (K437, B438, cs439, as440, as440, as440, t443, Ag444, t443)), rfl, ⟨rfl, hz479, hz480, hz481, hz482, hz483, hz484, hz485, hz486, hz487, hz488, hz489, hz490, hO⟩, by rw [ht99]; exact hP, hD, by rw [ht99]; exact hzz1, by rw [ht99]; exact hzz2⟩, hS.F ht99⟩) hS.2.2 dX0_value_315
  by_cases h491 : kd = 9
  · subst h491
    refine lv_tableIn (tgt := 274) (off := 270) hx hb dX0_value_4 (by decide) (by decide) (by decide) (by decide) ?_
    have hnd := hwp.1 q hqT hqL.1
    obtain ⟨q1, hc0, ht0, hw0⟩ := NdO.ch hnd (f := 0) (by decide) (hnd.1.1 (by rw [hkd]; decide))
    have hv0 : 1 ≤ g 0 q1 ∧ g 0 q1 + 1 ≤ n := ⟨hw0.1, (by have z := hw0.2; omega)⟩
    obtain ⟨hlf0, htl, hnd0, hin0⟩ := hek9.1 (by rw [hkd]; decide) q1 hc0
    refine lv_aload_n hx hb dX0_value_274 rfl (lv_at hl 0 rfl) ?_
    refine lv_aload_n hx hb dX0_value_275 rfl (lv_at hl 1 rfl) ?_
    have hO : OKP G h0 a (upd (upd (upd (upd (upd (upd (upd (upd (upd (upd F 2 (nI sz)) 5 (nI cs)) 7 (nI hd)) 12 (nI vr)) 13 as9) 2 (nI sz)) 5 (nI cs)) 7 (nI hd)) 12 (nI vr)) 13 as9) (updR (updR (updR (updR R 2 (.ref pq)) 3 (.ref mq)) 2 (.ref pq)) 3 (.ref mq)) Z B J K w := hO.to rfl
    obtain ⟨_, qr495, hqr496⟩ := hO.2.1 24 _ (sg_24 G h0 a _ _ _ _ _)
    refine pn_V0 (G := G) (As := [.ref q]) (rest := []) hx hb hml hown hq hE hX pX0_al hP hD hS hA hl.1 (Y_newArray l G h0 a (upd (upd (upd (upd (upd F 2 (nI sz)) 5 (nI cs)) 7 (nI hd)) 12 (nI vr)) 13 as9) (updR (updR R 2 (.ref pq)) 3 (.ref mq)) Z B J K w pq dr ml nd nm cp it s9 q mq cs vr sz n q1 g rk pb Ag pd sl os m9 sn lo hd c0 as9 okA (by omega) (BdE.wp BdE.rfl hwp) (BdE.pt BdE.rfl hwp hps) (BdE.rko BdE.rfl hrk) (by omega) (by omega) hng hmq hqT hqL (EkA.be BdE.rfl (BeR.rfl 7 (by decide)) (BeR.rfl 11 (by decide)) hek) (OwC.be BdE.rfl hmq hdr0 hcO) (NaB.be BdE.rfl BeF.rfl hwp hps.2.1 hdr0 (BeR.rfl 11 (by decide)) hna) (EnV.of (BeR.rfl 26 (by decide)) (BeR.rfl 27 (by decide)) hen) (fun z => (hev0 z).1) (by omega) hop hlf hc0 ht0 hv0 hlf0 hin0 htl hnd0 (hek9.2.2.2.2.2.2.2 hkd) ihv hO hl0) (gV pw_261 pw_262 pw_263 pw_63 pw_214) hV_X0_newArray qr495 0 hqr496 rfl rfl rfl (Nat.le_of_ble_eq_true rfl) dX0_value_276 ⟨(by show 0 + 1 ≤ 1; omega), (by show 0 + 6 ≤ 6; omega)⟩ ⟨(by show (5 * n + 33) + 1 ≤ (5 * n + 34); omega), (by show 8 + (3 + 11) + (200 * n + 560) ≤ (200 * n + 600); omega)⟩ (fun v494 u492 H locs hw493 hP hD hS => ?_) (fun ux ce9 q9 H9 locs9 hux hP9 hD9 hS9 hce hcv hcl => pb_out ux (ThQ.up (Thx.same (Thx.same (Thx.same (Thx.same (Thx.same Thx.rfl rfl) rfl) rfl) rfl) rfl) (show RhX (updR (updR R 2 (.ref pq)) 3 (.ref mq)) (updR (updR (updR (updR R 2 (.ref pq)) 3 (.ref mq)) 2 (.ref pq)) 3 (.ref mq)) from fun k9 hk9 => by unfold updR; simp only [show ¬ k9 = 1 by omega, show ¬ k9 = 2 by omega, show ¬ k9 = 3 by omega, show ¬ k9 = 4 by omega, if_false]) hux) hnt hlocks hce hcv hcl hP9 hD9 hS9 (by show 0 + 1 ≤ 1; omega) (by show 0 + 6 ≤ 6; omega))
    obtain ⟨w, K497, B498, cs499, as500, wt501, wf502, t503, Ag504⟩ := u492
    obtain ⟨hw493, h505, h506, h507, h508, h509, h510, h511, h512, h513, h514, h515, hO⟩ := hw493
    have h505 : SmW B B498 cs := h505
    have h506 : BdE K K497 := h506
    have h507 : BeF K K497 := h507
    have h508 : BeL K K497 none := h508
    have h509 : BeI K K497 g q := h509
    have h510 : Bth B B498 := h510
    have h511 : BeR B B498 := h511
    have h512 : t503 < 128 := h512
    have h513 : cs ≤ cs499 ∧ cs499 + 0 ≤ cs + 2 * tlE g q := h513
    have h514 : AsE as9 as500 := h514
    have h515 : okA → PlQ pb B B498 Ag Ag504 pd m9 sn lo cs cs499 as9 as500 hd sl os t503 (K.2.1 0 q) := h515
    obtain rfl : v494 = some (.int (nI t503)) := hw493
    have hf516 : K497.1 pq = 7 := (BdE.T h506 hp1 (by decide))
    have hf517 : K497.2.2.1 18 pq = some (a 1) := (BdE.C h506 (by rw [hp1]; decide) 18).trans hp2
    have hf518 : K497.2.2.1 14 pq = some dr := (BdE.C h506 (by rw [hp1]; decide) 14).trans hp3
    have hf519 : K497.1 dr = 8 := (BdE.T h506 hp4 (by decide))
    have hf520 : K497.2.2.1 15 pq = some ml := (BdE.C h506 (by rw [hp1]; decide) 15).trans hp5
    have hf521 : K497.1 ml = 5 := (BdE.T h506 hp6 (by decide))
    have hf522 : K497.2.1 24 pq = (nI nd) := (BdE.I h506 (by rw [hp1]; decide) (by decide) (by decide)).trans hp8
    have hf523 : K497.1 q = 1 := (BdE.T h506 hqT (by decide))
    have hf524 : K497.1 mq = 3 := (BdE.T h506 hmq (by decide))
    have hf525 : K497.2.1 0 q = 9 := (BdE.I h506 (by rw [hqT]; decide) (by decide) (by decide)).trans hkd
    have hf526 : K497.2.1 1 q = tk := (BdE.I h506 (by rw [hqT]; decide) (by decide) (by decide)).trans htk
    have hf527 : K497.2.2.1 0 q = some q1 := (BdE.C h506 (by rw [hqT]; decide) 0).trans hc0
    have hf528 : K497.1 q1 = 1 := (BdE.T h506 ht0 (by decide))
    have hO : OKP G h0 a (upd (upd (upd (upd (upd (upd (upd F 2 (nI sz)) 5 (nI cs499)) 7 (nI hd)) 12 (nI vr)) 13 as500) 14 wt501) 15 wf502) (updR (updR R 2 (.ref pq)) 3 (.ref mq)) Z B498 J K497 w := hO.to rfl
    refine W.widen (k := 0) (n := 0) (by show 0 + 0 ≤ 0; omega) (by show 0 + 0 ≤ 0; omega) ?_
    refine W.eq (g2 := F0 m 279 ls [.int (nI t503)]) rfl ?_
    have hbe529 := BdE.trans BdE.rfl h506
    have hbb530 : Bth B B498 := Bth.trans (show Thx (upd (upd (upd (upd (upd F 2 (nI sz)) 5 (nI cs)) 7 (nI hd)) 12 (nI vr)) 13 as9) (upd (upd (upd (upd (upd F 2 (nI sz)) 5 (nI cs)) 7 (nI hd)) 12 (nI vr)) 13 as9) B B from Thx.rfl).2 h510
    have hng531 : Nng (B498 18) := h510.2 hng
    have hsw532 : ∀ x9 : Nat, x9 < cs → (B498 16) x9 = B 16 x9 := fun x9 hx9 => ((h505 x9 (by omega)).1).trans ((fun _ _ => rfl) x9 hx9)
    have hsw533 : ∀ x9 : Nat, x9 < cs → (B498 17) x9 = B 17 x9 := fun x9 hx9 => ((h505 x9 (by omega)).2.1).trans ((fun _ _ => rfl) x9 hx9)
    have hsw534 : ∀ x9 : Nat, x9 < cs → (B498 18) x9 = B 18 x9 := fun x9 hx9 => ((h505 x9 (by omega)).2.2.1).trans ((fun _ _ => rfl) x9 hx9)
    have hsw535 : ∀ x9 : Nat, x9 < cs → (B498 19) x9 = B 19 x9 := fun x9 hx9 => ((h505 x9 (by omega)).2.2.2).trans ((fun _ _ => rfl) x9 hx9)
    have hbf536 := BeF.trans BeF.rfl h507 BdE.rfl
    have hbl538 := BeL.trans BeL.rfl h508 BdE.rfl
    have hbi539 := BeI.trans BeI.rfl h509 BdE.rfl InE.rfl
    have hbr537 : BeR B B498 := BeR.trans BeR.rfl h511
    have has540 : AsE as9 as500 := AsE.trans AsE.rfl h514
    refine lv_istore_n (lv' := [(2, .int (nI t503)), (0, .ref (a 4)), (1, .ref q)]) hx hb dX0_value_279 rfl hl (by decide) rfl (fun ls hl => ?_)
    refine lv_goto (tgt := 298) hx hb dX0_value_280 (by decide) ?_
    refine lv_aload_n hx hb dX0_value_298 rfl (lv_at hl 1 rfl) ?_
    refine lv_aload_n hx hb dX0_value_299 rfl (lv_at hl 1 rfl) ?_
    refine c_get (v := .int as500) (C := RX0) (Tc := TX0) (N := 13) (ci := 0) hx hb hq pin_wsX00 hown hE hP hO 24 (sg_24 G h0 a _ _ _ _ _) rfl 8 (by decide) (hq _ pw_55) (fun _ h9 => h9) rfl dX0_value_300 ?_
    refine c_put (v := .int as500) (ty := .int) (C := RX0) (Tc := TX0) (N := 13) (ci := 0) hx hb hq pin_wsX00 tyX0 tyX0_ok nmX0 hown hE hP hD hS hO 24 (sg_24 G h0 a _ _ _ _ _) rfl 9 (by decide) (hq _ pw_156) (fun _ h9 => h9) rfl (by decide +kernel) rfl rfl (Nat.le_of_ble_eq_true rfl) (sf_14 G h0 a _ _ _ _ _ as500) dX0_value_303 (fun H locs w hP hD hS hO => ?_)
    refine lv_aload_n hx hb dX0_value_306 rfl (lv_at hl 1 rfl) ?_
    refine lv_aload_n hx hb dX0_value_307 rfl (lv_at hl 1 rfl) ?_
    refine c_get (v := .int as500) (C := RX0) (Tc := TX0) (N := 13) (ci := 0) hx hb hq pin_wsX00 hown hE hP hO 24 (sg_24 G h0 a _ _ _ _ _) rfl 8 (by decide) (hq _ pw_55) (fun _ h9 => h9) rfl dX0_value_308 ?_
    refine c_put (v := .int as500) (ty := .int) (C := RX0) (Tc := TX0) (N := 13) (ci := 0) hx hb hq pin_wsX00 tyX0 tyX0_ok nmX0 hown hE hP hD hS hO 24 (sg_24 G h0 a _ _ _ _ _) rfl 10 (by decide) (hq _ pw_157) (fun _ h9 => h9) rfl (by decide +kernel) rfl rfl (Nat.le_of_ble_eq_true rfl) (sf_15 G h0 a _ _ _ _ _ as500) dX0_value_311 (fun H locs w hP hD hS hO => ?_)
    refine lv_iload_n hx hb dX0_value_314 rfl (lv_at hl 0 rfl) ?_
    refine W_size (fun hz1 hz2 => ?_)
    refine vx_ret ?_
    have hz541 : SmW B B498 cs := (fun x9 hx9 => ⟨hsw532 x9 hx9, hsw533 x9 hx9, hsw534 x9 hx9, hsw535 x9 hx9⟩)
    have hz542 : BdE K K497 := hbe529
    have hz543 : BeF K K497 := hbf536
    have hz544 : BeL K K497 none := hbl538
    have hz545 : BeI K K497 g q := hbi539
    have hz546 : Bth B B498 := (show Thx (upd (upd (upd (upd (upd F 2 (nI sz)) 5 (nI cs)) 7 (nI hd)) 12 (nI vr)) 13 as9) (upd (upd (upd (upd (upd (upd (upd (upd (upd F 2 (nI sz)) 5 (nI cs)) 7 (nI hd)) 12 (nI vr)) 13 as9) 5 (nI cs499)) 13 as500) 14 as500) 15 as500) B B498 from (Thx.f (Thx.f (Thx.f (Thx.f (Bth.thx hbb530) (by omega)) (by omega)) (by omega)) (by omega))).2
    have hz547 : BeR B B498 := hbr537
    have hz548 : t503 < 128 := (by omega)
    have hz549 : cs ≤ cs499 ∧ cs499 + 0 ≤ cs + 2 * tlE g q := (by omega)
    have hz550 : AsE as9 as500 ∧ AsE as9 as500 ∧ AsE as9 as500 := ⟨has540, has540, has540⟩
    have hz551 : okA → VaQ pb B B498 Ag Ag504 pd m9 sn lo cs cs499 as9 as500 as500 as500 hd sl os t503 t503 (K.2.1 0 q) := (fun z => PlQ.va (h515 z) h512)
    have hz552 : CaK (K.2.1 0 q) → cs499 + 2 ≤ cs + 2 * tlE g q := (fun z9 => absurd z9 (by rw [hkd]; unfold CaK; decide))
    have hO : OKP G h0 a (upd (upd (upd (upd (upd (upd (upd F 2 (nI sz)) 5 (nI cs499)) 7 (nI hd)) 12 (nI vr)) 13 as500) 14 as500) 15 as500) (updR (updR R 2 (.ref pq)) 3 (.ref mq)) Z B498 J K497 w := hO.to rfl
    refine W.widen (k := 1) (n := 6) (by omega) (by omega) ?_
    have hzz1 : H.size ≤ s.heap.size + (0) := (by have z : 0 ≤ 0 := (by omega); omega)
    have hzz2 : hSl H ≤ hSl s.heap + (0) := (by have z : 0 ≤ 0 := (by omega); omega)
    exact W.iret (v := (nI t503)) hx hb hr (fun t99 ht99 hW99 => ⟨⟨_, (w, (K497, B498, cs499, as500, as500, as500, t503, Ag504, t503)), rfl, ⟨rfl, hz541, hz542, hz543, hz544, hz545, hz546, hz547, hz548, hz549, hz550, hz551, hz552, hO⟩, by rw [ht99]; exact hP, hD, by rw [ht99]; exact hzz1, by rw [ht99]; exact hzz2⟩, hS.F ht99⟩) hS.2.2 dX0_value_315
  by_cases h553 : kd = 10
  · subst h553
    refine lv_tableIn (tgt := 256) (off := 252) hx hb dX0_value_4 (by decide) (by decide) (by decide) (by decide) ?_
    have hnd := hwp.1 q hqT hqL.1
    obtain ⟨har, hM, hca0⟩ := hek9.2.2.2.1 (by rw [hkd]; decide)
    refine lv_aload_n hx hb dX0_value_256 rfl (lv_at hl 0 rfl) ?_
    refine lv_aload_n hx hb dX0_value_257 rfl (lv_at hl 1 rfl) ?_
    have hO : OKP G h0 a (upd (upd (upd (upd (upd (upd (upd (upd (upd (upd F 2 (nI sz)) 5 (nI cs)) 7 (nI hd)) 12 (nI vr)) 13 as9) 2 (nI sz)) 5 (nI cs)) 7 (nI hd)) 12 (nI vr)) 13 as9) (updR (updR (updR (updR R 2 (.ref pq)) 3 (.ref mq)) 2 (.ref pq)) 3 (.ref mq)) Z B J K w := hO.to rfl
    obtain ⟨_, qr557, hqr558⟩ := hO.2.1 24 _ (sg_24 G h0 a _ _ _ _ _)
    refine pn_V0 (G := G) (As := [.ref q]) (rest := []) hx hb hml hown hq hE hX pX0_al hP hD hS hA hl.1 (Y_call l G h0 a (upd (upd (upd (upd (upd F 2 (nI sz)) 5 (nI cs)) 7 (nI hd)) 12 (nI vr)) 13 as9) (updR (updR R 2 (.ref pq)) 3 (.ref mq)) Z B J K w pq dr ml nd nm cp it s9 q mq cs vr sz n g rk pb Ag pd sl os m9 sn lo hd c0 as9 okA (by omega) (BdE.wp BdE.rfl hwp) (BdE.pt BdE.rfl hwp hps) (BdE.rko BdE.rfl hrk) (by omega) (by omega) hng hmq hqT hqL (EkA.be BdE.rfl (BeR.rfl 7 (by decide)) (BeR.rfl 11 (by decide)) hek) (OwC.be BdE.rfl hmq hdr0 hcO) (NaB.be BdE.rfl BeF.rfl hwp hps.2.1 hdr0 (BeR.rfl 11 (by decide)) hna) (EnV.of (BeR.rfl 26 (by decide)) (BeR.rfl 27 (by decide)) hen) (fun z => (hev0 z).1) (by omega) hop hlf hkd har hM (fun x9 h9 => ⟨(hnd.2.1 0 x9 (by decide) h9).1, ⟨(hnd.2.1 0 x9 (by decide) h9).2.1, (by have z9 := (hnd.2.1 0 x9 (by decide) h9).2.2.1; omega)⟩, (hca0 x9 h9).1, (hca0 x9 h9).2⟩) ihv hO hl0) (gV pw_255 pw_256 pw_257 pw_63 pw_179) hV_X0_call qr557 0 hqr558 rfl rfl rfl (Nat.le_of_ble_eq_true rfl) dX0_value_258 ⟨(by show 0 + 1 ≤ 1; omega), (by show 0 + 6 ≤ 6; omega)⟩ ⟨(by show (5 * n + 33) + 1 ≤ (5 * n + 34); omega), (by show 8 + (4 + 11) + (200 * n + 560) ≤ (200 * n + 600); omega)⟩ (fun v556 u554 H locs hw555 hP hD hS => ?_) (fun ux ce9 q9 H9 locs9 hux hP9 hD9 hS9 hce hcv hcl => pb_out ux (ThQ.up (Thx.same (Thx.same (Thx.same (Thx.same (Thx.same Thx.rfl rfl) rfl) rfl) rfl) rfl) (show RhX (updR (updR R 2 (.ref pq)) 3 (.ref mq)) (updR (updR (updR (updR R 2 (.ref pq)) 3 (.ref mq)) 2 (.ref pq)) 3 (.ref mq)) from fun k9 hk9 => by unfold updR; simp only [show ¬ k9 = 1 by omega, show ¬ k9 = 2 by omega, show ¬ k9 = 3 by omega, show ¬ k9 = 4 by omega, if_false]) hux) hnt hlocks hce hcv hcl hP9 hD9 hS9 (by show 0 + 1 ≤ 1; omega) (by show 0 + 6 ≤ 6; omega))
    obtain ⟨w, K559, B560, cs561, as562, wt563, wf564, t565, Ag566⟩ := u554
    obtain ⟨hw555, h567, h568, h569, h570, h571, h572, h573, h574, h575, h576, h577, hO⟩ := hw555
    have h567 : SmW B B560 cs := h567
    have h568 : BdE K K559 := h568
    have h569 : BeF K K559 := h569
    have h570 : BeL K K559 none := h570
    have h571 : BeI K K559 g q := h571
    have h572 : Bth B B560 := h572
    have h573 : BeR B B560 := h573
    have h574 : t565 < 128 := h574
    have h575 : cs ≤ cs561 ∧ cs561 + 2 ≤ cs + 2 * tlE g q := h575
    have h576 : AsE as9 as562 := h576
    have h577 : okA → PlQ pb B B560 Ag Ag566 pd m9 sn lo cs cs561 as9 as562 hd sl os t565 (K.2.1 0 q) := h577
    obtain rfl : v556 = some (.int (nI t565)) := hw555
    have hf578 : K559.1 pq = 7 := (BdE.T h568 hp1 (by decide))
    have hf579 : K559.2.2.1 18 pq = some (a 1) := (BdE.C h568 (by rw [hp1]; decide) 18).trans hp2
    have hf580 : K559.2.2.1 14 pq = some dr := (BdE.C h568 (by rw [hp1]; decide) 14).trans hp3
    have hf581 : K559.1 dr = 8 := (BdE.T h568 hp4 (by decide))
    have hf582 : K559.2.2.1 15 pq = some ml := (BdE.C h568 (by rw [hp1]; decide) 15).trans hp5
    have hf583 : K559.1 ml = 5 := (BdE.T h568 hp6 (by decide))
    have hf584 : K559.2.1 24 pq = (nI nd) := (BdE.I h568 (by rw [hp1]; decide) (by decide) (by decide)).trans hp8
    have hf585 : K559.1 q = 1 := (BdE.T h568 hqT (by decide))
    have hf586 : K559.1 mq = 3 := (BdE.T h568 hmq (by decide))
    have hf587 : K559.2.1 0 q = 10 := (BdE.I h568 (by rw [hqT]; decide) (by decide) (by decide)).trans hkd
    have hf588 : K559.2.1 1 q = tk := (BdE.I h568 (by rw [hqT]; decide) (by decide) (by decide)).trans htk
    have hO : OKP G h0 a (upd (upd (upd (upd (upd (upd (upd F 2 (nI sz)) 5 (nI cs561)) 7 (nI hd)) 12 (nI vr)) 13 as562) 14 wt563) 15 wf564) (updR (updR R 2 (.ref pq)) 3 (.ref mq)) Z B560 J K559 w := hO.to rfl
    refine W.widen (k := 0) (n := 0) (by show 0 + 0 ≤ 0; omega) (by show 0 + 0 ≤ 0; omega) ?_
    refine W.eq (g2 := F0 m 261 ls [.int (nI t565)]) rfl ?_
    have hbe589 := BdE.trans BdE.rfl h568
    have hbb590 : Bth B B560 := Bth.trans (show Thx (upd (upd (upd (upd (upd F 2 (nI sz)) 5 (nI cs)) 7 (nI hd)) 12 (nI vr)) 13 as9) (upd (upd (upd (upd (upd F 2 (nI sz)) 5 (nI cs)) 7 (nI hd)) 12 (nI vr)) 13 as9) B B from Thx.rfl).2 h572
    have hng591 : Nng (B560 18) := h572.2 hng
    have hsw592 : ∀ x9 : Nat, x9 < cs → (B560 16) x9 = B 16 x9 := fun x9 hx9 => ((h567 x9 (by omega)).1).trans ((fun _ _ => rfl) x9 hx9)
    have hsw593 : ∀ x9 : Nat, x9 < cs → (B560 17) x9 = B 17 x9 := fun x9 hx9 => ((h567 x9 (by omega)).2.1).trans ((fun _ _ => rfl) x9 hx9)
    have hsw594 : ∀ x9 : Nat, x9 < cs → (B560 18) x9 = B 18 x9 := fun x9 hx9 => ((h567 x9 (by omega)).2.2.1).trans ((fun _ _ => rfl) x9 hx9)
    have hsw595 : ∀ x9 : Nat, x9 < cs → (B560 19) x9 = B 19 x9 := fun x9 hx9 => ((h567 x9 (by omega)).2.2.2).trans ((fun _ _ => rfl) x9 hx9)
    have hbf596 := BeF.trans BeF.rfl h569 BdE.rfl
    have hbl598 := BeL.trans BeL.rfl h570 BdE.rfl
    have hbi599 := BeI.trans BeI.rfl h571 BdE.rfl InE.rfl
    have hbr597 : BeR B B560 := BeR.trans BeR.rfl h573
    have has600 : AsE as9 as562 := AsE.trans AsE.rfl h576
    refine lv_istore_n (lv' := [(2, .int (nI t565)), (0, .ref (a 4)), (1, .ref q)]) hx hb dX0_value_261 rfl hl (by decide) rfl (fun ls hl => ?_)
    refine lv_goto (tgt := 298) hx hb dX0_value_262 (by decide) ?_
    refine lv_aload_n hx hb dX0_value_298 rfl (lv_at hl 1 rfl) ?_
    refine lv_aload_n hx hb dX0_value_299 rfl (lv_at hl 1 rfl) ?_
    refine c_get (v := .int as562) (C := RX0) (Tc := TX0) (N := 13) (ci := 0) hx hb hq pin_wsX00 hown hE hP hO 24 (sg_24 G h0 a _ _ _ _ _) rfl 8 (by decide) (hq _ pw_55) (fun _ h9 => h9) rfl dX0_value_300 ?_
    refine c_put (v := .int as562) (ty := .int) (C := RX0) (Tc := TX0) (N := 13) (ci := 0) hx hb hq pin_wsX00 tyX0 tyX0_ok nmX0 hown hE hP hD hS hO 24 (sg_24 G h0 a _ _ _ _ _) rfl 9 (by decide) (hq _ pw_156) (fun _ h9 => h9) rfl (by decide +kernel) rfl rfl (Nat.le_of_ble_eq_true rfl) (sf_14 G h0 a _ _ _ _ _ as562) dX0_value_303 (fun H locs w hP hD hS hO => ?_)
    refine lv_aload_n hx hb dX0_value_306 rfl (lv_at hl 1 rfl) ?_
    refine lv_aload_n hx hb dX0_value_307 rfl (lv_at hl 1 rfl) ?_
    refine c_get (v := .int as562) (C := RX0) (Tc := TX0) (N := 13) (ci := 0) hx hb hq pin_wsX00 hown hE hP hO 24 (sg_24 G h0 a _ _ _ _ _) rfl 8 (by decide) (hq _ pw_55) (fun _ h9 => h9) rfl dX0_value_308 ?_
    refine c_put (v := .int as562) (ty := .int) (C := RX0) (Tc := TX0) (N := 13) (ci := 0) hx hb hq pin_wsX00 tyX0 tyX0_ok nmX0 hown hE hP hD hS hO 24 (sg_24 G h0 a _ _ _ _ _) rfl 10 (by decide) (hq _ pw_157) (fun _ h9 => h9) rfl (by decide +kernel) rfl rfl (Nat.le_of_ble_eq_true rfl) (sf_15 G h0 a _ _ _ _ _ as562) dX0_value_311 (fun H locs w hP hD hS hO => ?_)
    refine lv_iload_n hx hb dX0_value_314 rfl (lv_at hl 0 rfl) ?_
    refine W_size (fun hz1 hz2 => ?_)
    refine vx_ret ?_
    have hz601 : SmW B B560 cs := (fun x9 hx9 => ⟨hsw592 x9 hx9, hsw593 x9 hx9, hsw594 x9 hx9, hsw595 x9 hx9⟩)
    have hz602 : BdE K K559 := hbe589
    have hz603 : BeF K K559 := hbf596
    have hz604 : BeL K K559 none := hbl598
    have hz605 : BeI K K559 g q := hbi599
    have hz606 : Bth B B560 := (show Thx (upd (upd (upd (upd (upd F 2 (nI sz)) 5 (nI cs)) 7 (nI hd)) 12 (nI vr)) 13 as9) (upd (upd (upd (upd (upd (upd (upd (upd (upd F 2 (nI sz)) 5 (nI cs)) 7 (nI hd)) 12 (nI vr)) 13 as9) 5 (nI cs561)) 13 as562) 14 as562) 15 as562) B B560 from (Thx.f (Thx.f (Thx.f (Thx.f (Bth.thx hbb590) (by omega)) (by omega)) (by omega)) (by omega))).2
    have hz607 : BeR B B560 := hbr597
    have hz608 : t565 < 128 := (by omega)
    have hz609 : cs ≤ cs561 ∧ cs561 + 0 ≤ cs + 2 * tlE g q := (by omega)
    have hz610 : AsE as9 as562 ∧ AsE as9 as562 ∧ AsE as9 as562 := ⟨has600, has600, has600⟩
    have hz611 : okA → VaQ pb B B560 Ag Ag566 pd m9 sn lo cs cs561 as9 as562 as562 as562 hd sl os t565 t565 (K.2.1 0 q) := (fun z => PlQ.va (h577 z) h574)
    have hz612 : CaK (K.2.1 0 q) → cs561 + 2 ≤ cs + 2 * tlE g q := (fun _ => by omega)
    have hO : OKP G h0 a (upd (upd (upd (upd (upd (upd (upd F 2 (nI sz)) 5 (nI cs561)) 7 (nI hd)) 12 (nI vr)) 13 as562) 14 as562) 15 as562) (updR (updR R 2 (.ref pq)) 3 (.ref mq)) Z B560 J K559 w := hO.to rfl
    refine W.widen (k := 1) (n := 6) (by omega) (by omega) ?_
    have hzz1 : H.size ≤ s.heap.size + (0) := (by have z : 0 ≤ 0 := (by omega); omega)
    have hzz2 : hSl H ≤ hSl s.heap + (0) := (by have z : 0 ≤ 0 := (by omega); omega)
    exact W.iret (v := (nI t565)) hx hb hr (fun t99 ht99 hW99 => ⟨⟨_, (w, (K559, B560, cs561, as562, as562, as562, t565, Ag566, t565)), rfl, ⟨rfl, hz601, hz602, hz603, hz604, hz605, hz606, hz607, hz608, hz609, hz610, hz611, hz612, hO⟩, by rw [ht99]; exact hP, hD, by rw [ht99]; exact hzz1, by rw [ht99]; exact hzz2⟩, hS.F ht99⟩) hS.2.2 dX0_value_315
  by_cases h613 : kd = 11
  · subst h613
    refine lv_tableIn (tgt := 265) (off := 261) hx hb dX0_value_4 (by decide) (by decide) (by decide) (by decide) ?_
    have hnd := hwp.1 q hqT hqL.1
    obtain ⟨har, hM, hca0⟩ := hek9.2.2.2.1 (by rw [hkd]; decide)
    refine lv_aload_n hx hb dX0_value_265 rfl (lv_at hl 0 rfl) ?_
    refine lv_aload_n hx hb dX0_value_266 rfl (lv_at hl 1 rfl) ?_
    have hO : OKP G h0 a (upd (upd (upd (upd (upd (upd (upd (upd (upd (upd F 2 (nI sz)) 5 (nI cs)) 7 (nI hd)) 12 (nI vr)) 13 as9) 2 (nI sz)) 5 (nI cs)) 7 (nI hd)) 12 (nI vr)) 13 as9) (updR (updR (updR (updR R 2 (.ref pq)) 3 (.ref mq)) 2 (.ref pq)) 3 (.ref mq)) Z B J K w := hO.to rfl
    obtain ⟨_, qr617, hqr618⟩ := hO.2.1 24 _ (sg_24 G h0 a _ _ _ _ _)
    refine pn_V0 (G := G) (As := [.ref q]) (rest := []) hx hb hml hown hq hE hX pX0_al hP hD hS hA hl.1 (Y_superCall l G h0 a (upd (upd (upd (upd (upd F 2 (nI sz)) 5 (nI cs)) 7 (nI hd)) 12 (nI vr)) 13 as9) (updR (updR R 2 (.ref pq)) 3 (.ref mq)) Z B J K w pq dr ml nd nm cp it s9 q mq cs vr sz n g rk pb Ag pd sl os m9 sn lo hd c0 as9 okA (by omega) (BdE.wp BdE.rfl hwp) (BdE.pt BdE.rfl hwp hps) (BdE.rko BdE.rfl hrk) (by omega) (by omega) hng hmq hqT hqL (EkA.be BdE.rfl (BeR.rfl 7 (by decide)) (BeR.rfl 11 (by decide)) hek) (OwC.be BdE.rfl hmq hdr0 hcO) (NaB.be BdE.rfl BeF.rfl hwp hps.2.1 hdr0 (BeR.rfl 11 (by decide)) hna) (EnV.of (BeR.rfl 26 (by decide)) (BeR.rfl 27 (by decide)) hen) (fun z => (hev0 z).1) (by omega) hop hlf hkd har hM ihv hO hl0) (gV pw_258 pw_259 pw_260 pw_63 pw_218) hV_X0_superCall qr617 0 hqr618 rfl rfl rfl (Nat.le_of_ble_eq_true rfl) dX0_value_267 ⟨(by show 0 + 1 ≤ 1; omega), (by show 0 + 6 ≤ 6; omega)⟩ ⟨(by show (5 * n + 33) + 1 ≤ (5 * n + 34); omega), (by show 8 + (4 + 11) + (200 * n + 560) ≤ (200 * n + 600); omega)⟩ (fun v616 u614 H locs hw615 hP hD hS => ?_) (fun ux ce9 q9 H9 locs9 hux hP9 hD9 hS9 hce hcv hcl => pb_out ux (ThQ.up (Thx.same (Thx.same (Thx.same (Thx.same (Thx.same Thx.rfl rfl) rfl) rfl) rfl) rfl) (show RhX (updR (updR R 2 (.ref pq)) 3 (.ref mq)) (updR (updR (updR (updR R 2 (.ref pq)) 3 (.ref mq)) 2 (.ref pq)) 3 (.ref mq)) from fun k9 hk9 => by unfold updR; simp only [show ¬ k9 = 1 by omega, show ¬ k9 = 2 by omega, show ¬ k9 = 3 by omega, show ¬ k9 = 4 by omega, if_false]) hux) hnt hlocks hce hcv hcl hP9 hD9 hS9 (by show 0 + 1 ≤ 1; omega) (by show 0 + 6 ≤ 6; omega))
    obtain ⟨w, K619, B620, cs621, as622, wt623, wf624, t625, Ag626⟩ := u614
    obtain ⟨hw615, h627, h628, h629, h630, h631, h632, h633, h634, h635, h636, h637, hO⟩ := hw615
    have h627 : SmW B B620 cs := h627
    have h628 : BdE K K619 := h628
    have h629 : BeF K K619 := h629
    have h630 : BeL K K619 none := h630
    have h631 : BeI K K619 g q := h631
    have h632 : Bth B B620 := h632
    have h633 : BeR B B620 := h633
    have h634 : t625 < 128 := h634
    have h635 : cs ≤ cs621 ∧ cs621 + 2 ≤ cs + 2 * tlE g q := h635
    have h636 : AsE as9 as622 := h636
    have h637 : okA → PlQ pb B B620 Ag Ag626 pd m9 sn lo cs cs621 as9 as622 hd sl os t625 (K.2.1 0 q) := h637
    obtain rfl : v616 = some (.int (nI t625)) := hw615
    have hf638 : K619.1 pq = 7 := (BdE.T h628 hp1 (by decide))
    have hf639 : K619.2.2.1 18 pq = some (a 1) := (BdE.C h628 (by rw [hp1]; decide) 18).trans hp2
    have hf640 : K619.2.2.1 14 pq = some dr := (BdE.C h628 (by rw [hp1]; decide) 14).trans hp3
    have hf641 : K619.1 dr = 8 := (BdE.T h628 hp4 (by decide))
    have hf642 : K619.2.2.1 15 pq = some ml := (BdE.C h628 (by rw [hp1]; decide) 15).trans hp5
    have hf643 : K619.1 ml = 5 := (BdE.T h628 hp6 (by decide))
    have hf644 : K619.2.1 24 pq = (nI nd) := (BdE.I h628 (by rw [hp1]; decide) (by decide) (by decide)).trans hp8
    have hf645 : K619.1 q = 1 := (BdE.T h628 hqT (by decide))
    have hf646 : K619.1 mq = 3 := (BdE.T h628 hmq (by decide))
    have hf647 : K619.2.1 0 q = 11 := (BdE.I h628 (by rw [hqT]; decide) (by decide) (by decide)).trans hkd
    have hf648 : K619.2.1 1 q = tk := (BdE.I h628 (by rw [hqT]; decide) (by decide) (by decide)).trans htk
    have hO : OKP G h0 a (upd (upd (upd (upd (upd (upd (upd F 2 (nI sz)) 5 (nI cs621)) 7 (nI hd)) 12 (nI vr)) 13 as622) 14 wt623) 15 wf624) (updR (updR R 2 (.ref pq)) 3 (.ref mq)) Z B620 J K619 w := hO.to rfl
    refine W.widen (k := 0) (n := 0) (by show 0 + 0 ≤ 0; omega) (by show 0 + 0 ≤ 0; omega) ?_
    refine W.eq (g2 := F0 m 270 ls [.int (nI t625)]) rfl ?_
    have hbe649 := BdE.trans BdE.rfl h628
    have hbb650 : Bth B B620 := Bth.trans (show Thx (upd (upd (upd (upd (upd F 2 (nI sz)) 5 (nI cs)) 7 (nI hd)) 12 (nI vr)) 13 as9) (upd (upd (upd (upd (upd F 2 (nI sz)) 5 (nI cs)) 7 (nI hd)) 12 (nI vr)) 13 as9) B B from Thx.rfl).2 h632
    have hng651 : Nng (B620 18) := h632.2 hng
    have hsw652 : ∀ x9 : Nat, x9 < cs → (B620 16) x9 = B 16 x9 := fun x9 hx9 => ((h627 x9 (by omega)).1).trans ((fun _ _ => rfl) x9 hx9)
    have hsw653 : ∀ x9 : Nat, x9 < cs → (B620 17) x9 = B 17 x9 := fun x9 hx9 => ((h627 x9 (by omega)).2.1).trans ((fun _ _ => rfl) x9 hx9)
    have hsw654 : ∀ x9 : Nat, x9 < cs → (B620 18) x9 = B 18 x9 := fun x9 hx9 => ((h627 x9 (by omega)).2.2.1).trans ((fun _ _ => rfl) x9 hx9)
    have hsw655 : ∀ x9 : Nat, x9 < cs → (B620 19) x9 = B 19 x9 := fun x9 hx9 => ((h627 x9 (by omega)).2.2.2).trans ((fun _ _ => rfl) x9 hx9)
    have hbf656 := BeF.trans BeF.rfl h629 BdE.rfl
    have hbl658 := BeL.trans BeL.rfl h630 BdE.rfl
    have hbi659 := BeI.trans BeI.rfl h631 BdE.rfl InE.rfl
    have hbr657 : BeR B B620 := BeR.trans BeR.rfl h633
    have has660 : AsE as9 as622 := AsE.trans AsE.rfl h636
    refine lv_istore_n (lv' := [(2, .int (nI t625)), (0, .ref (a 4)), (1, .ref q)]) hx hb dX0_value_270 rfl hl (by decide) rfl (fun ls hl => ?_)
    refine lv_goto (tgt := 298) hx hb dX0_value_271 (by decide) ?_
    refine lv_aload_n hx hb dX0_value_298 rfl (lv_at hl 1 rfl) ?_
    refine lv_aload_n hx hb dX0_value_299 rfl (lv_at hl 1 rfl) ?_
    refine c_get (v := .int as622) (C := RX0) (Tc := TX0) (N := 13) (ci := 0) hx hb hq pin_wsX00 hown hE hP hO 24 (sg_24 G h0 a _ _ _ _ _) rfl 8 (by decide) (hq _ pw_55) (fun _ h9 => h9) rfl dX0_value_300 ?_
    refine c_put (v := .int as622) (ty := .int) (C := RX0) (Tc := TX0) (N := 13) (ci := 0) hx hb hq pin_wsX00 tyX0 tyX0_ok nmX0 hown hE hP hD hS hO 24 (sg_24 G h0 a _ _ _ _ _) rfl 9 (by decide) (hq _ pw_156) (fun _ h9 => h9) rfl (by decide +kernel) rfl rfl (Nat.le_of_ble_eq_true rfl) (sf_14 G h0 a _ _ _ _ _ as622) dX0_value_303 (fun H locs w hP hD hS hO => ?_)
    refine lv_aload_n hx hb dX0_value_306 rfl (lv_at hl 1 rfl) ?_
    refine lv_aload_n hx hb dX0_value_307 rfl (lv_at hl 1 rfl) ?_
    refine c_get (v := .int as622) (C := RX0) (Tc := TX0) (N := 13) (ci := 0) hx hb hq pin_wsX00 hown hE hP hO 24 (sg_24 G h0 a _ _ _ _ _) rfl 8 (by decide) (hq _ pw_55) (fun _ h9 => h9) rfl dX0_value_308 ?_
    refine c_put (v := .int as622) (ty := .int) (C := RX0) (Tc := TX0) (N := 13) (ci := 0) hx hb hq pin_wsX00 tyX0 tyX0_ok nmX0 hown hE hP hD hS hO 24 (sg_24 G h0 a _ _ _ _ _) rfl 10 (by decide) (hq _ pw_157) (fun _ h9 => h9) rfl (by decide +kernel) rfl rfl (Nat.le_of_ble_eq_true rfl) (sf_15 G h0 a _ _ _ _ _ as622) dX0_value_311 (fun H locs w hP hD hS hO => ?_)
    refine lv_iload_n hx hb dX0_value_314 rfl (lv_at hl 0 rfl) ?_
    refine W_size (fun hz1 hz2 => ?_)
    refine vx_ret ?_
    have hz661 : SmW B B620 cs := (fun x9 hx9 => ⟨hsw652 x9 hx9, hsw653 x9 hx9, hsw654 x9 hx9, hsw655 x9 hx9⟩)
    have hz662 : BdE K K619 := hbe649
    have hz663 : BeF K K619 := hbf656
    have hz664 : BeL K K619 none := hbl658
    have hz665 : BeI K K619 g q := hbi659
    have hz666 : Bth B B620 := (show Thx (upd (upd (upd (upd (upd F 2 (nI sz)) 5 (nI cs)) 7 (nI hd)) 12 (nI vr)) 13 as9) (upd (upd (upd (upd (upd (upd (upd (upd (upd F 2 (nI sz)) 5 (nI cs)) 7 (nI hd)) 12 (nI vr)) 13 as9) 5 (nI cs621)) 13 as622) 14 as622) 15 as622) B B620 from (Thx.f (Thx.f (Thx.f (Thx.f (Bth.thx hbb650) (by omega)) (by omega)) (by omega)) (by omega))).2
    have hz667 : BeR B B620 := hbr657
    have hz668 : t625 < 128 := (by omega)
    have hz669 : cs ≤ cs621 ∧ cs621 + 0 ≤ cs + 2 * tlE g q := (by omega)
    have hz670 : AsE as9 as622 ∧ AsE as9 as622 ∧ AsE as9 as622 := ⟨has660, has660, has660⟩
    have hz671 : okA → VaQ pb B B620 Ag Ag626 pd m9 sn lo cs cs621 as9 as622 as622 as622 hd sl os t625 t625 (K.2.1 0 q) := (fun z => PlQ.va (h637 z) h634)
    have hz672 : CaK (K.2.1 0 q) → cs621 + 2 ≤ cs + 2 * tlE g q := (fun _ => by omega)
    have hO : OKP G h0 a (upd (upd (upd (upd (upd (upd (upd F 2 (nI sz)) 5 (nI cs621)) 7 (nI hd)) 12 (nI vr)) 13 as622) 14 as622) 15 as622) (updR (updR R 2 (.ref pq)) 3 (.ref mq)) Z B620 J K619 w := hO.to rfl
    refine W.widen (k := 1) (n := 6) (by omega) (by omega) ?_
    have hzz1 : H.size ≤ s.heap.size + (0) := (by have z : 0 ≤ 0 := (by omega); omega)
    have hzz2 : hSl H ≤ hSl s.heap + (0) := (by have z : 0 ≤ 0 := (by omega); omega)
    exact W.iret (v := (nI t625)) hx hb hr (fun t99 ht99 hW99 => ⟨⟨_, (w, (K619, B620, cs621, as622, as622, as622, t625, Ag626, t625)), rfl, ⟨rfl, hz661, hz662, hz663, hz664, hz665, hz666, hz667, hz668, hz669, hz670, hz671, hz672, hO⟩, by rw [ht99]; exact hP, hD, by rw [ht99]; exact hzz1, by rw [ht99]; exact hzz2⟩, hS.F ht99⟩) hS.2.2 dX0_value_315
  by_cases h673 : kd = 12
  · subst h673
    refine lv_tableIn (tgt := 204) (off := 200) hx hb dX0_value_4 (by decide) (by decide) (by decide) (by decide) ?_
    have hnd := hwp.1 q hqT hqL.1
    obtain ⟨q1, hc0, ht0, hw0⟩ := NdO.ch hnd (f := 0) (by decide) (hnd.1.1 (by rw [hkd]; decide))
    have hv0 : 1 ≤ g 0 q1 ∧ g 0 q1 + 1 ≤ n := ⟨hw0.1, (by have z := hw0.2; omega)⟩
    obtain ⟨hlf0, htl, hnd0, hin0⟩ := hek9.1 (by rw [hkd]; decide) q1 hc0
    refine lv_aload_n hx hb dX0_value_204 rfl (lv_at hl 0 rfl) ?_
    refine lv_aload_n hx hb dX0_value_205 rfl (lv_at hl 1 rfl) ?_
    have hO : OKP G h0 a (upd (upd (upd (upd (upd (upd (upd (upd (upd (upd F 2 (nI sz)) 5 (nI cs)) 7 (nI hd)) 12 (nI vr)) 13 as9) 2 (nI sz)) 5 (nI cs)) 7 (nI hd)) 12 (nI vr)) 13 as9) (updR (updR (updR (updR R 2 (.ref pq)) 3 (.ref mq)) 2 (.ref pq)) 3 (.ref mq)) Z B J K w := hO.to rfl
    obtain ⟨_, qr677, hqr678⟩ := hO.2.1 24 _ (sg_24 G h0 a _ _ _ _ _)
    refine pn_V0 (G := G) (As := [.ref q]) (rest := []) hx hb hml hown hq hE hX pX0_al hP hD hS hA hl.1 (Y_fieldBehind l G h0 a (upd (upd (upd (upd (upd F 2 (nI sz)) 5 (nI cs)) 7 (nI hd)) 12 (nI vr)) 13 as9) (updR (updR R 2 (.ref pq)) 3 (.ref mq)) Z B J K w pq dr ml nd nm cp it s9 q mq cs vr sz n q1 g rk pb Ag pd sl os m9 sn lo hd c0 as9 okA (by omega) (BdE.wp BdE.rfl hwp) (BdE.pt BdE.rfl hwp hps) (BdE.rko BdE.rfl hrk) (by omega) (by omega) hng hmq hqT hqL (EkA.be BdE.rfl (BeR.rfl 7 (by decide)) (BeR.rfl 11 (by decide)) hek) (OwC.be BdE.rfl hmq hdr0 hcO) (NaB.be BdE.rfl BeF.rfl hwp hps.2.1 hdr0 (BeR.rfl 11 (by decide)) hna) (EnV.of (BeR.rfl 26 (by decide)) (BeR.rfl 27 (by decide)) hen) (fun z => (hev0 z).1) (by omega) hop hlf hc0 ht0 hv0 hlf0 hin0 htl hnd0 hkd ihv hO hl0) (gV pw_246 pw_247 pw_248 pw_63 pw_210) hV_X0_fieldBehind qr677 0 hqr678 rfl rfl rfl (Nat.le_of_ble_eq_true rfl) dX0_value_206 ⟨(by show 0 + 1 ≤ 1; omega), (by show 0 + 6 ≤ 6; omega)⟩ ⟨(by show (5 * n + 33) + 1 ≤ (5 * n + 34); omega), (by show 8 + (3 + 11) + (200 * n + 560) ≤ (200 * n + 600); omega)⟩ (fun v676 u674 H locs hw675 hP hD hS => ?_) (fun ux ce9 q9 H9 locs9 hux hP9 hD9 hS9 hce hcv hcl => pb_out ux (ThQ.up (Thx.same (Thx.same (Thx.same (Thx.same (Thx.same Thx.rfl rfl) rfl) rfl) rfl) rfl) (show RhX (updR (updR R 2 (.ref pq)) 3 (.ref mq)) (updR (updR (updR (updR R 2 (.ref pq)) 3 (.ref mq)) 2 (.ref pq)) 3 (.ref mq)) from fun k9 hk9 => by unfold updR; simp only [show ¬ k9 = 1 by omega, show ¬ k9 = 2 by omega, show ¬ k9 = 3 by omega, show ¬ k9 = 4 by omega, if_false]) hux) hnt hlocks hce hcv hcl hP9 hD9 hS9 (by show 0 + 1 ≤ 1; omega) (by show 0 + 6 ≤ 6; omega))
    obtain ⟨w, K679, B680, cs681, as682, wt683, wf684, t685, Ag686, n687, c688⟩ := u674
    obtain ⟨hw675, h689, h690, h691, h692, h693, h694, h695, h696, h697, h698, h699, h700, h701, h702, h703, hO⟩ := hw675
    have h689 : SmW B B680 cs := h689
    have h690 : BdE K K679 := h690
    have h691 : BeF K K679 := h691
    have h692 : BeL K K679 none := h692
    have h693 : BeI K K679 g q := h693
    have h694 : Bth B B680 := h694
    have h695 : BeR B B680 := h695
    have h696 : t685 < 128 := h696
    have h697 : cs ≤ cs681 ∧ cs681 + 1 ≤ cs + 2 * tlE g q := h697
    have h698 : AsE as9 as682 := h698
    have h699 : okA → EvB pb B B680 Ag Ag686 pd m9 sn lo cs cs681 as9 as682 hd sl (c688 :: os) := h699
    have h700 : K679.2.1 5 q = nI n687 ∧ n687 < 5000 := h700
    have h701 : n687 < pb.2.1 c688 ∧ pb.2.2.1 c688 n687 = tyc t685 := h701
    have h702 : TyV nd t685 := h702
    have h703 : c688 < nd := h703
    obtain rfl : v676 = some (.int (nI t685)) := hw675
    have hf704 : K679.1 pq = 7 := (BdE.T h690 hp1 (by decide))
    have hf705 : K679.2.2.1 18 pq = some (a 1) := (BdE.C h690 (by rw [hp1]; decide) 18).trans hp2
    have hf706 : K679.2.2.1 14 pq = some dr := (BdE.C h690 (by rw [hp1]; decide) 14).trans hp3
    have hf707 : K679.1 dr = 8 := (BdE.T h690 hp4 (by decide))
    have hf708 : K679.2.2.1 15 pq = some ml := (BdE.C h690 (by rw [hp1]; decide) 15).trans hp5
    have hf709 : K679.1 ml = 5 := (BdE.T h690 hp6 (by decide))
    have hf710 : K679.2.1 24 pq = (nI nd) := (BdE.I h690 (by rw [hp1]; decide) (by decide) (by decide)).trans hp8
    have hf711 : K679.1 q = 1 := (BdE.T h690 hqT (by decide))
    have hf712 : K679.1 mq = 3 := (BdE.T h690 hmq (by decide))
    have hf713 : K679.2.1 0 q = 12 := (BdE.I h690 (by rw [hqT]; decide) (by decide) (by decide)).trans hkd
    have hf714 : K679.2.1 1 q = tk := (BdE.I h690 (by rw [hqT]; decide) (by decide) (by decide)).trans htk
    have hf715 : K679.2.2.1 0 q = some q1 := (BdE.C h690 (by rw [hqT]; decide) 0).trans hc0
    have hf716 : K679.1 q1 = 1 := (BdE.T h690 ht0 (by decide))
    have hO : OKP G h0 a (upd (upd (upd (upd (upd (upd (upd F 2 (nI sz)) 5 (nI cs681)) 7 (nI hd)) 12 (nI vr)) 13 as682) 14 wt683) 15 wf684) (updR (updR R 2 (.ref pq)) 3 (.ref mq)) Z B680 J K679 w := hO.to rfl
    refine W.widen (k := 0) (n := 0) (by show 0 + 0 ≤ 0; omega) (by show 0 + 0 ≤ 0; omega) ?_
    refine W.eq (g2 := F0 m 209 ls [.int (nI t685)]) rfl ?_
    have hbe717 := BdE.trans BdE.rfl h690
    have hbb718 : Bth B B680 := Bth.trans (show Thx (upd (upd (upd (upd (upd F 2 (nI sz)) 5 (nI cs)) 7 (nI hd)) 12 (nI vr)) 13 as9) (upd (upd (upd (upd (upd F 2 (nI sz)) 5 (nI cs)) 7 (nI hd)) 12 (nI vr)) 13 as9) B B from Thx.rfl).2 h694
    have hng719 : Nng (B680 18) := h694.2 hng
    have hsw720 : ∀ x9 : Nat, x9 < cs → (B680 16) x9 = B 16 x9 := fun x9 hx9 => ((h689 x9 (by omega)).1).trans ((fun _ _ => rfl) x9 hx9)
    have hsw721 : ∀ x9 : Nat, x9 < cs → (B680 17) x9 = B 17 x9 := fun x9 hx9 => ((h689 x9 (by omega)).2.1).trans ((fun _ _ => rfl) x9 hx9)
    have hsw722 : ∀ x9 : Nat, x9 < cs → (B680 18) x9 = B 18 x9 := fun x9 hx9 => ((h689 x9 (by omega)).2.2.1).trans ((fun _ _ => rfl) x9 hx9)
    have hsw723 : ∀ x9 : Nat, x9 < cs → (B680 19) x9 = B 19 x9 := fun x9 hx9 => ((h689 x9 (by omega)).2.2.2).trans ((fun _ _ => rfl) x9 hx9)
    have hbf724 := BeF.trans BeF.rfl h691 BdE.rfl
    have hbl726 := BeL.trans BeL.rfl h692 BdE.rfl
    have hbi727 := BeI.trans BeI.rfl h693 BdE.rfl InE.rfl
    have hbr725 : BeR B B680 := BeR.trans BeR.rfl h695
    have has728 : AsE as9 as682 := AsE.trans AsE.rfl h698
    refine lv_istore_n (lv' := [(2, .int (nI t685)), (0, .ref (a 4)), (1, .ref q)]) hx hb dX0_value_209 rfl hl (by decide) rfl (fun ls hl => ?_)
    refine lv_aload_n hx hb dX0_value_210 rfl (lv_at hl 1 rfl) ?_
    refine c_get (v := .ref (a 2)) (C := RX0) (Tc := TX0) (N := 13) (ci := 0) hx hb hq pin_wsX00 hown hE hP hO 24 (sg_24 G h0 a _ _ _ _ _) rfl 1 (by decide) (hq _ pw_5) (fun _ h9 => h9) rfl dX0_value_211 ?_
    refine lv_bipush (v := 17) hx hb dX0_value_214 (by decide) ?_
    refine lv_aload_n hx hb dX0_value_216 rfl (lv_at hl 2 rfl) ?_
    refine p_get (v := .int (nI n687)) (C := RX7) (Tc := TX7) (N := 11) (ci := 13) hx hb hq pin_wsX70 hown hE hP hO (by rw [hf711]; decide) (rep_1 hf711) rfl 5 (by decide) (hq _ pw_142) (fun _ h9 => h9) (congrArg (fun z => some (Value.int z)) h700.1) dX0_value_217 ?_
    refine lv_iconst (v := 0) hx hb dX0_value_220 (by decide) ?_
    have hev729 : okA → EvQ pb.1 pb.2.1 pb.2.2.1 pb.2.2.2 (B 16) (B 17) (B 18) (B 19) (B680 16) (B680 17) (B680 18) (B680 19) Ag Ag686 pd m9 sn lo cs cs681 as9 as682 hd sl (c688 :: os) := h699
    have h379 := hna.1.1
    have hO : OKW G h0 a (upd (upd (upd (upd (upd (upd (upd (upd (upd F 2 (nI sz)) 5 (nI cs681)) 7 (nI hd)) 12 (nI vr)) 13 as682) 14 wt683) 15 wf684) 5 (nI cs681)) 7 (nI hd)) (updR (updR R 2 (.ref pq)) 3 (.ref mq)) Z B680 J K679.1 (fun q99 x99 => x99 = rep G a K679 q99) w := hO.to rfl
    obtain ⟨_, qr733, hqr734⟩ := hO.2.1 13 _ (sg_13 G h0 a _ _ _ _ _)
    refine pc_V0 (G := G) (As := [.int 17, .int (nI n687), .int 0]) (rest := []) hx hb hml hown hq hE hX pX0_al hP hD hS hA hl.1 (Y_emit l G h0 a (upd (upd (upd (upd (upd (upd (upd F 2 (nI sz)) 5 (nI cs681)) 7 (nI hd)) 12 (nI vr)) 13 as682) 14 wt683) 15 wf684) (updR (updR R 2 (.ref pq)) 3 (.ref mq)) Z B680 J K679.1 (fun q99 x99 => x99 = rep G a K679 q99) w 17 (nI n687) 0 cs681 hd (by omega) hO) (gV pw_129 pw_130 pw_131 pw_70 pw_115) hV_X1_emit qr733 1 hqr734 rfl rfl rfl (Nat.le_of_ble_eq_true rfl) dX0_value_221 ⟨(by show 0 + 0 ≤ 1; omega), (by show 0 + 0 ≤ 6; omega)⟩ ⟨(by show 2 + 1 ≤ (5 * n + 34); omega), (by show 8 + (4 + 11) + 60 ≤ (200 * n + 600); omega)⟩ (fun v732 u730 H locs hw731 hP hD hS => ?_)
    obtain ⟨w, _⟩ := u730
    obtain ⟨hw731, hO⟩ := hw731
    obtain rfl : v732 = none := hw731
    have hO : OKP G h0 a (upd (upd (upd (upd (upd (upd (upd F 2 (nI sz)) 5 (nI (cs681 + 1))) 7 (nI hd)) 12 (nI vr)) 13 as682) 14 wt683) 15 wf684) (updR (updR R 2 (.ref pq)) 3 (.ref mq)) Z (updA (updA (updA (updA B680 16 (upd ((B680 16)) cs681 17)) 17 (upd ((B680 17)) cs681 (nI n687))) 18 (upd ((B680 18)) cs681 0)) 19 (upd ((B680 19)) cs681 (nI hd))) J K679 w := hO.to rfl
    refine W.widen (k := 0) (n := 0) (Nat.le_of_ble_eq_true rfl) (Nat.le_of_ble_eq_true rfl) ?_
    refine W.eq (g2 := F0 m 224 ls []) rfl ?_
    have hsw735 : ∀ x9 : Nat, x9 < cs → (upd ((B680 16)) cs681 17) x9 = B 16 x9 := fun x9 hx9 => (if_neg (by omega)).trans (hsw720 x9 hx9)
    have hsw736 : ∀ x9 : Nat, x9 < cs → (upd ((B680 17)) cs681 (nI n687)) x9 = B 17 x9 := fun x9 hx9 => (if_neg (by omega)).trans (hsw721 x9 hx9)
    have hsw737 : ∀ x9 : Nat, x9 < cs → (upd ((B680 18)) cs681 0) x9 = B 18 x9 := fun x9 hx9 => (if_neg (by omega)).trans (hsw722 x9 hx9)
    have hsw738 : ∀ x9 : Nat, x9 < cs → (upd ((B680 19)) cs681 (nI hd)) x9 = B 19 x9 := fun x9 hx9 => (if_neg (by omega)).trans (hsw723 x9 hx9)
    obtain ⟨Ag739, hev740⟩ : ∃ A5 : Nat → AS, okA → EvQ pb.1 pb.2.1 pb.2.2.1 pb.2.2.2 (B 16) (B 17) (B 18) (B 19) (upd ((B680 16)) cs681 17) (upd ((B680 17)) cs681 (nI n687)) (upd ((B680 18)) cs681 0) (upd ((B680 19)) cs681 (nI hd)) Ag A5 pd m9 sn lo cs (cs681 + 1) as9 as682 hd sl ((tyc t685) :: os) := ⟨(upS Ag686 (cs681 + 1) (rcA as682, hd, sl, ((tyc t685) :: os))), fun z => (hev729 z).trans (EmS.fieldT (hev729 z).1 (by show os.length + 1 ≤ 248; omega) (by omega) h701.1 h701.2)⟩
    have hng9 : Nng (upd ((B680 18)) cs681 0) := Nng.set hng719 (k := 0) (by omega)
    have hng741 := hng9
    refine lv_goto (tgt := 298) hx hb dX0_value_224 (by decide) ?_
    refine lv_aload_n hx hb dX0_value_298 rfl (lv_at hl 1 rfl) ?_
    refine lv_aload_n hx hb dX0_value_299 rfl (lv_at hl 1 rfl) ?_
    refine c_get (v := .int as682) (C := RX0) (Tc := TX0) (N := 13) (ci := 0) hx hb hq pin_wsX00 hown hE hP hO 24 (sg_24 G h0 a _ _ _ _ _) rfl 8 (by decide) (hq _ pw_55) (fun _ h9 => h9) rfl dX0_value_300 ?_
    refine c_put (v := .int as682) (ty := .int) (C := RX0) (Tc := TX0) (N := 13) (ci := 0) hx hb hq pin_wsX00 tyX0 tyX0_ok nmX0 hown hE hP hD hS hO 24 (sg_24 G h0 a _ _ _ _ _) rfl 9 (by decide) (hq _ pw_156) (fun _ h9 => h9) rfl (by decide +kernel) rfl rfl (Nat.le_of_ble_eq_true rfl) (sf_14 G h0 a _ _ _ _ _ as682) dX0_value_303 (fun H locs w hP hD hS hO => ?_)
    refine lv_aload_n hx hb dX0_value_306 rfl (lv_at hl 1 rfl) ?_
    refine lv_aload_n hx hb dX0_value_307 rfl (lv_at hl 1 rfl) ?_
    refine c_get (v := .int as682) (C := RX0) (Tc := TX0) (N := 13) (ci := 0) hx hb hq pin_wsX00 hown hE hP hO 24 (sg_24 G h0 a _ _ _ _ _) rfl 8 (by decide) (hq _ pw_55) (fun _ h9 => h9) rfl dX0_value_308 ?_
    refine c_put (v := .int as682) (ty := .int) (C := RX0) (Tc := TX0) (N := 13) (ci := 0) hx hb hq pin_wsX00 tyX0 tyX0_ok nmX0 hown hE hP hD hS hO 24 (sg_24 G h0 a _ _ _ _ _) rfl 10 (by decide) (hq _ pw_157) (fun _ h9 => h9) rfl (by decide +kernel) rfl rfl (Nat.le_of_ble_eq_true rfl) (sf_15 G h0 a _ _ _ _ _ as682) dX0_value_311 (fun H locs w hP hD hS hO => ?_)
    refine lv_iload_n hx hb dX0_value_314 rfl (lv_at hl 0 rfl) ?_
    refine W_size (fun hz1 hz2 => ?_)
    refine vx_ret ?_
    have hz742 : SmW B (updA (updA (updA (updA B680 16 (upd ((B680 16)) cs681 17)) 17 (upd ((B680 17)) cs681 (nI n687))) 18 (upd ((B680 18)) cs681 0)) 19 (upd ((B680 19)) cs681 (nI hd))) cs := (fun x9 hx9 => ⟨hsw735 x9 hx9, hsw736 x9 hx9, hsw737 x9 hx9, hsw738 x9 hx9⟩)
    have hz743 : BdE K K679 := hbe717
    have hz744 : BeF K K679 := hbf724
    have hz745 : BeL K K679 none := hbl726
    have hz746 : BeI K K679 g q := hbi727
    have hz747 : Bth B (updA (updA (updA (updA B680 16 (upd ((B680 16)) cs681 17)) 17 (upd ((B680 17)) cs681 (nI n687))) 18 (upd ((B680 18)) cs681 0)) 19 (upd ((B680 19)) cs681 (nI hd))) := (show Thx (upd (upd (upd (upd (upd F 2 (nI sz)) 5 (nI cs)) 7 (nI hd)) 12 (nI vr)) 13 as9) (upd (upd (upd (upd (upd (upd (upd (upd (upd F 2 (nI sz)) 5 (nI cs)) 7 (nI hd)) 12 (nI vr)) 13 as9) 5 (nI (cs681 + 1))) 13 as682) 14 as682) 15 as682) B (updA (updA (updA (updA B680 16 (upd ((B680 16)) cs681 17)) 17 (upd ((B680 17)) cs681 (nI n687))) 18 (upd ((B680 18)) cs681 0)) 19 (upd ((B680 19)) cs681 (nI hd))) from (Thx.b (Thx.b8 (Thx.b (Thx.b (Thx.f (Thx.f (Thx.f (Thx.f (Bth.thx hbb718) (by omega)) (by omega)) (by omega)) (by omega)) (by omega) (by decide)) (by omega) (by decide)) hng741) (by omega) (by decide))).2
    have hz748 : BeR B (updA (updA (updA (updA B680 16 (upd ((B680 16)) cs681 17)) 17 (upd ((B680 17)) cs681 (nI n687))) 18 (upd ((B680 18)) cs681 0)) 19 (upd ((B680 19)) cs681 (nI hd))) := (BeR.up (k := 19) (f := (upd ((B680 19)) cs681 (nI hd))) (BeR.up (k := 18) (f := (upd ((B680 18)) cs681 0)) (BeR.up (k := 17) (f := (upd ((B680 17)) cs681 (nI n687))) (BeR.up (k := 16) (f := (upd ((B680 16)) cs681 17)) hbr725 (by omega)) (by omega)) (by omega)) (by omega))
    have hz749 : t685 < 128 := (by omega)
    have hz750 : cs ≤ (cs681 + 1) ∧ (cs681 + 1) + 0 ≤ cs + 2 * tlE g q := (by omega)
    have hz751 : AsE as9 as682 ∧ AsE as9 as682 ∧ AsE as9 as682 := ⟨has728, has728, has728⟩
    have hz752 : okA → VaQ pb B (updA (updA (updA (updA B680 16 (upd ((B680 16)) cs681 17)) 17 (upd ((B680 17)) cs681 (nI n687))) 18 (upd ((B680 18)) cs681 0)) 19 (upd ((B680 19)) cs681 (nI hd))) Ag Ag739 pd m9 sn lo cs (cs681 + 1) as9 as682 as682 as682 hd sl os t685 t685 (K.2.1 0 q) := (fun z => by by_cases e9 : t685 = 63; exact Or.inl ⟨e9, by rw [hkd]; unfold CaK; decide⟩; (have h9 := hev740 z; rw [tyc_ne e9] at h9; exact Or.inr ⟨by rw [rsO_ne e9]; exact h9, UTb.ty (by omega), by omega⟩))
    have hz753 : CaK (K.2.1 0 q) → (cs681 + 1) + 2 ≤ cs + 2 * tlE g q := (fun z9 => absurd z9 (by rw [hkd]; unfold CaK; decide))
    have hO : OKP G h0 a (upd (upd (upd (upd (upd (upd (upd F 2 (nI sz)) 5 (nI (cs681 + 1))) 7 (nI hd)) 12 (nI vr)) 13 as682) 14 as682) 15 as682) (updR (updR R 2 (.ref pq)) 3 (.ref mq)) Z (updA (updA (updA (updA B680 16 (upd ((B680 16)) cs681 17)) 17 (upd ((B680 17)) cs681 (nI n687))) 18 (upd ((B680 18)) cs681 0)) 19 (upd ((B680 19)) cs681 (nI hd))) J K679 w := hO.to rfl
    refine W.widen (k := 1) (n := 6) (by omega) (by omega) ?_
    have hzz1 : H.size ≤ s.heap.size + (0) := (by have z : 0 ≤ 0 := (by omega); omega)
    have hzz2 : hSl H ≤ hSl s.heap + (0) := (by have z : 0 ≤ 0 := (by omega); omega)
    exact W.iret (v := (nI t685)) hx hb hr (fun t99 ht99 hW99 => ⟨⟨_, (w, (K679, (updA (updA (updA (updA B680 16 (upd ((B680 16)) cs681 17)) 17 (upd ((B680 17)) cs681 (nI n687))) 18 (upd ((B680 18)) cs681 0)) 19 (upd ((B680 19)) cs681 (nI hd))), (cs681 + 1), as682, as682, as682, t685, Ag739, t685)), rfl, ⟨rfl, hz742, hz743, hz744, hz745, hz746, hz747, hz748, hz749, hz750, hz751, hz752, hz753, hO⟩, by rw [ht99]; exact hP, hD, by rw [ht99]; exact hzz1, by rw [ht99]; exact hzz2⟩, hS.F ht99⟩) hS.2.2 dX0_value_315
  by_cases h754 : kd = 13
  · subst h754
    refine lv_tableIn (tgt := 247) (off := 243) hx hb dX0_value_4 (by decide) (by decide) (by decide) (by decide) ?_
    have hnd := hwp.1 q hqT hqL.1
    obtain ⟨q1, hc0, ht0, hw0⟩ := NdO.ch hnd (f := 0) (by decide) (hnd.1.1 (by rw [hkd]; decide))
    have hv0 : 1 ≤ g 0 q1 ∧ g 0 q1 + 1 ≤ n := ⟨hw0.1, (by have z := hw0.2; omega)⟩
    obtain ⟨hlf0, htl, hnd0, hin0⟩ := hek9.1 (by rw [hkd]; decide) q1 hc0
    refine lv_aload_n hx hb dX0_value_247 rfl (lv_at hl 0 rfl) ?_
    refine lv_aload_n hx hb dX0_value_248 rfl (lv_at hl 1 rfl) ?_
    have hO : OKP G h0 a (upd (upd (upd (upd (upd (upd (upd (upd (upd (upd F 2 (nI sz)) 5 (nI cs)) 7 (nI hd)) 12 (nI vr)) 13 as9) 2 (nI sz)) 5 (nI cs)) 7 (nI hd)) 12 (nI vr)) 13 as9) (updR (updR (updR (updR R 2 (.ref pq)) 3 (.ref mq)) 2 (.ref pq)) 3 (.ref mq)) Z B J K w := hO.to rfl
    obtain ⟨_, qr758, hqr759⟩ := hO.2.1 24 _ (sg_24 G h0 a _ _ _ _ _)
    refine pn_V0 (G := G) (As := [.ref q]) (rest := []) hx hb hml hown hq hE hX pX0_al hP hD hS hA hl.1 (Y_lengthE l G h0 a (upd (upd (upd (upd (upd F 2 (nI sz)) 5 (nI cs)) 7 (nI hd)) 12 (nI vr)) 13 as9) (updR (updR R 2 (.ref pq)) 3 (.ref mq)) Z B J K w pq dr ml nd nm cp it s9 q mq cs vr sz n q1 g rk pb Ag pd sl os m9 sn lo hd c0 as9 okA (by omega) (BdE.wp BdE.rfl hwp) (BdE.pt BdE.rfl hwp hps) (BdE.rko BdE.rfl hrk) (by omega) (by omega) hng hmq hqT hqL (EkA.be BdE.rfl (BeR.rfl 7 (by decide)) (BeR.rfl 11 (by decide)) hek) (OwC.be BdE.rfl hmq hdr0 hcO) (NaB.be BdE.rfl BeF.rfl hwp hps.2.1 hdr0 (BeR.rfl 11 (by decide)) hna) (EnV.of (BeR.rfl 26 (by decide)) (BeR.rfl 27 (by decide)) hen) (fun z => (hev0 z).1) (by omega) hop hlf hc0 ht0 hv0 hlf0 hin0 htl hnd0 ihv hO hl0) (gV pw_252 pw_253 pw_254 pw_63 pw_212) hV_X0_length qr758 0 hqr759 rfl rfl rfl (Nat.le_of_ble_eq_true rfl) dX0_value_249 ⟨(by show 0 + 1 ≤ 1; omega), (by show 0 + 6 ≤ 6; omega)⟩ ⟨(by show (5 * n + 33) + 1 ≤ (5 * n + 34); omega), (by show 8 + (2 + 11) + (200 * n + 560) ≤ (200 * n + 600); omega)⟩ (fun v757 u755 H locs hw756 hP hD hS => ?_) (fun ux ce9 q9 H9 locs9 hux hP9 hD9 hS9 hce hcv hcl => pb_out ux (ThQ.up (Thx.same (Thx.same (Thx.same (Thx.same (Thx.same Thx.rfl rfl) rfl) rfl) rfl) rfl) (show RhX (updR (updR R 2 (.ref pq)) 3 (.ref mq)) (updR (updR (updR (updR R 2 (.ref pq)) 3 (.ref mq)) 2 (.ref pq)) 3 (.ref mq)) from fun k9 hk9 => by unfold updR; simp only [show ¬ k9 = 1 by omega, show ¬ k9 = 2 by omega, show ¬ k9 = 3 by omega, show ¬ k9 = 4 by omega, if_false]) hux) hnt hlocks hce hcv hcl hP9 hD9 hS9 (by show 0 + 1 ≤ 1; omega) (by show 0 + 6 ≤ 6; omega))
    obtain ⟨w, K760, B761, cs762, as763, wt764, wf765, t766, Ag767⟩ := u755
    obtain ⟨hw756, h768, h769, h770, h771, h772, h773, h774, h775, h776, h777, h778, hO⟩ := hw756
    have h768 : SmW B B761 cs := h768
    have h769 : BdE K K760 := h769
    have h770 : BeF K K760 := h770
    have h771 : BeL K K760 none := h771
    have h772 : BeI K K760 g q := h772
    have h773 : Bth B B761 := h773
    have h774 : BeR B B761 := h774
    have h775 : t766 < 128 := h775
    have h776 : cs ≤ cs762 ∧ cs762 + 0 ≤ cs + 2 * tlE g q := h776
    have h777 : AsE as9 as763 := h777
    have h778 : okA → PlQ pb B B761 Ag Ag767 pd m9 sn lo cs cs762 as9 as763 hd sl os t766 (K.2.1 0 q) := h778
    obtain rfl : v757 = some (.int (nI t766)) := hw756
    have hf779 : K760.1 pq = 7 := (BdE.T h769 hp1 (by decide))
    have hf780 : K760.2.2.1 18 pq = some (a 1) := (BdE.C h769 (by rw [hp1]; decide) 18).trans hp2
    have hf781 : K760.2.2.1 14 pq = some dr := (BdE.C h769 (by rw [hp1]; decide) 14).trans hp3
    have hf782 : K760.1 dr = 8 := (BdE.T h769 hp4 (by decide))
    have hf783 : K760.2.2.1 15 pq = some ml := (BdE.C h769 (by rw [hp1]; decide) 15).trans hp5
    have hf784 : K760.1 ml = 5 := (BdE.T h769 hp6 (by decide))
    have hf785 : K760.2.1 24 pq = (nI nd) := (BdE.I h769 (by rw [hp1]; decide) (by decide) (by decide)).trans hp8
    have hf786 : K760.1 q = 1 := (BdE.T h769 hqT (by decide))
    have hf787 : K760.1 mq = 3 := (BdE.T h769 hmq (by decide))
    have hf788 : K760.2.1 0 q = 13 := (BdE.I h769 (by rw [hqT]; decide) (by decide) (by decide)).trans hkd
    have hf789 : K760.2.1 1 q = tk := (BdE.I h769 (by rw [hqT]; decide) (by decide) (by decide)).trans htk
    have hf790 : K760.2.2.1 0 q = some q1 := (BdE.C h769 (by rw [hqT]; decide) 0).trans hc0
    have hf791 : K760.1 q1 = 1 := (BdE.T h769 ht0 (by decide))
    have hO : OKP G h0 a (upd (upd (upd (upd (upd (upd (upd F 2 (nI sz)) 5 (nI cs762)) 7 (nI hd)) 12 (nI vr)) 13 as763) 14 wt764) 15 wf765) (updR (updR R 2 (.ref pq)) 3 (.ref mq)) Z B761 J K760 w := hO.to rfl
    refine W.widen (k := 0) (n := 0) (by show 0 + 0 ≤ 0; omega) (by show 0 + 0 ≤ 0; omega) ?_
    refine W.eq (g2 := F0 m 252 ls [.int (nI t766)]) rfl ?_
    have hbe792 := BdE.trans BdE.rfl h769
    have hbb793 : Bth B B761 := Bth.trans (show Thx (upd (upd (upd (upd (upd F 2 (nI sz)) 5 (nI cs)) 7 (nI hd)) 12 (nI vr)) 13 as9) (upd (upd (upd (upd (upd F 2 (nI sz)) 5 (nI cs)) 7 (nI hd)) 12 (nI vr)) 13 as9) B B from Thx.rfl).2 h773
    have hng794 : Nng (B761 18) := h773.2 hng
    have hsw795 : ∀ x9 : Nat, x9 < cs → (B761 16) x9 = B 16 x9 := fun x9 hx9 => ((h768 x9 (by omega)).1).trans ((fun _ _ => rfl) x9 hx9)
    have hsw796 : ∀ x9 : Nat, x9 < cs → (B761 17) x9 = B 17 x9 := fun x9 hx9 => ((h768 x9 (by omega)).2.1).trans ((fun _ _ => rfl) x9 hx9)
    have hsw797 : ∀ x9 : Nat, x9 < cs → (B761 18) x9 = B 18 x9 := fun x9 hx9 => ((h768 x9 (by omega)).2.2.1).trans ((fun _ _ => rfl) x9 hx9)
    have hsw798 : ∀ x9 : Nat, x9 < cs → (B761 19) x9 = B 19 x9 := fun x9 hx9 => ((h768 x9 (by omega)).2.2.2).trans ((fun _ _ => rfl) x9 hx9)
    have hbf799 := BeF.trans BeF.rfl h770 BdE.rfl
    have hbl801 := BeL.trans BeL.rfl h771 BdE.rfl
    have hbi802 := BeI.trans BeI.rfl h772 BdE.rfl InE.rfl
    have hbr800 : BeR B B761 := BeR.trans BeR.rfl h774
    have has803 : AsE as9 as763 := AsE.trans AsE.rfl h777
    refine lv_istore_n (lv' := [(2, .int (nI t766)), (0, .ref (a 4)), (1, .ref q)]) hx hb dX0_value_252 rfl hl (by decide) rfl (fun ls hl => ?_)
    refine lv_goto (tgt := 298) hx hb dX0_value_253 (by decide) ?_
    refine lv_aload_n hx hb dX0_value_298 rfl (lv_at hl 1 rfl) ?_
    refine lv_aload_n hx hb dX0_value_299 rfl (lv_at hl 1 rfl) ?_
    refine c_get (v := .int as763) (C := RX0) (Tc := TX0) (N := 13) (ci := 0) hx hb hq pin_wsX00 hown hE hP hO 24 (sg_24 G h0 a _ _ _ _ _) rfl 8 (by decide) (hq _ pw_55) (fun _ h9 => h9) rfl dX0_value_300 ?_
    refine c_put (v := .int as763) (ty := .int) (C := RX0) (Tc := TX0) (N := 13) (ci := 0) hx hb hq pin_wsX00 tyX0 tyX0_ok nmX0 hown hE hP hD hS hO 24 (sg_24 G h0 a _ _ _ _ _) rfl 9 (by decide) (hq _ pw_156) (fun _ h9 => h9) rfl (by decide +kernel) rfl rfl (Nat.le_of_ble_eq_true rfl) (sf_14 G h0 a _ _ _ _ _ as763) dX0_value_303 (fun H locs w hP hD hS hO => ?_)
    refine lv_aload_n hx hb dX0_value_306 rfl (lv_at hl 1 rfl) ?_
    refine lv_aload_n hx hb dX0_value_307 rfl (lv_at hl 1 rfl) ?_
    refine c_get (v := .int as763) (C := RX0) (Tc := TX0) (N := 13) (ci := 0) hx hb hq pin_wsX00 hown hE hP hO 24 (sg_24 G h0 a _ _ _ _ _) rfl 8 (by decide) (hq _ pw_55) (fun _ h9 => h9) rfl dX0_value_308 ?_
    refine c_put (v := .int as763) (ty := .int) (C := RX0) (Tc := TX0) (N := 13) (ci := 0) hx hb hq pin_wsX00 tyX0 tyX0_ok nmX0 hown hE hP hD hS hO 24 (sg_24 G h0 a _ _ _ _ _) rfl 10 (by decide) (hq _ pw_157) (fun _ h9 => h9) rfl (by decide +kernel) rfl rfl (Nat.le_of_ble_eq_true rfl) (sf_15 G h0 a _ _ _ _ _ as763) dX0_value_311 (fun H locs w hP hD hS hO => ?_)
    refine lv_iload_n hx hb dX0_value_314 rfl (lv_at hl 0 rfl) ?_
    refine W_size (fun hz1 hz2 => ?_)
    refine vx_ret ?_
    have hz804 : SmW B B761 cs := (fun x9 hx9 => ⟨hsw795 x9 hx9, hsw796 x9 hx9, hsw797 x9 hx9, hsw798 x9 hx9⟩)
    have hz805 : BdE K K760 := hbe792
    have hz806 : BeF K K760 := hbf799
    have hz807 : BeL K K760 none := hbl801
    have hz808 : BeI K K760 g q := hbi802
    have hz809 : Bth B B761 := (show Thx (upd (upd (upd (upd (upd F 2 (nI sz)) 5 (nI cs)) 7 (nI hd)) 12 (nI vr)) 13 as9) (upd (upd (upd (upd (upd (upd (upd (upd (upd F 2 (nI sz)) 5 (nI cs)) 7 (nI hd)) 12 (nI vr)) 13 as9) 5 (nI cs762)) 13 as763) 14 as763) 15 as763) B B761 from (Thx.f (Thx.f (Thx.f (Thx.f (Bth.thx hbb793) (by omega)) (by omega)) (by omega)) (by omega))).2
    have hz810 : BeR B B761 := hbr800
    have hz811 : t766 < 128 := (by omega)
    have hz812 : cs ≤ cs762 ∧ cs762 + 0 ≤ cs + 2 * tlE g q := (by omega)
    have hz813 : AsE as9 as763 ∧ AsE as9 as763 ∧ AsE as9 as763 := ⟨has803, has803, has803⟩
    have hz814 : okA → VaQ pb B B761 Ag Ag767 pd m9 sn lo cs cs762 as9 as763 as763 as763 hd sl os t766 t766 (K.2.1 0 q) := (fun z => PlQ.va (h778 z) h775)
    have hz815 : CaK (K.2.1 0 q) → cs762 + 2 ≤ cs + 2 * tlE g q := (fun z9 => absurd z9 (by rw [hkd]; unfold CaK; decide))
    have hO : OKP G h0 a (upd (upd (upd (upd (upd (upd (upd F 2 (nI sz)) 5 (nI cs762)) 7 (nI hd)) 12 (nI vr)) 13 as763) 14 as763) 15 as763) (updR (updR R 2 (.ref pq)) 3 (.ref mq)) Z B761 J K760 w := hO.to rfl
    refine W.widen (k := 1) (n := 6) (by omega) (by omega) ?_
    have hzz1 : H.size ≤ s.heap.size + (0) := (by have z : 0 ≤ 0 := (by omega); omega)
    have hzz2 : hSl H ≤ hSl s.heap + (0) := (by have z : 0 ≤ 0 := (by omega); omega)
    exact W.iret (v := (nI t766)) hx hb hr (fun t99 ht99 hW99 => ⟨⟨_, (w, (K760, B761, cs762, as763, as763, as763, t766, Ag767, t766)), rfl, ⟨rfl, hz804, hz805, hz806, hz807, hz808, hz809, hz810, hz811, hz812, hz813, hz814, hz815, hO⟩, by rw [ht99]; exact hP, hD, by rw [ht99]; exact hzz1, by rw [ht99]; exact hzz2⟩, hS.F ht99⟩) hS.2.2 dX0_value_315
  by_cases h816 : kd = 14
  · subst h816
    refine lv_tableIn (tgt := 227) (off := 223) hx hb dX0_value_4 (by decide) (by decide) (by decide) (by decide) ?_
    have hnd := hwp.1 q hqT hqL.1
    obtain ⟨q1, hc0, ht0, hw0⟩ := NdO.ch hnd (f := 0) (by decide) ((hnd.1.2.1 (by rw [hkd]; decide)).1)
    have hv0 : 1 ≤ g 0 q1 ∧ g 0 q1 + 1 ≤ n := ⟨hw0.1, (by have z := hw0.2; omega)⟩
    obtain ⟨q2, hc1, ht1, hw1⟩ := NdO.ch hnd (f := 1) (by decide) ((hnd.1.2.1 (by rw [hkd]; decide)).2)
    have hv1 : 1 ≤ g 0 q2 ∧ g 0 q2 + 1 ≤ n := ⟨hw1.1, (by have z := hw1.2; omega)⟩
    obtain ⟨hlf0, hlf1, htl, hnd0, hnd1, hin0, hin1⟩ := hek9.2.1 (by rw [hkd]; decide) q1 q2 hc0 hc1
    have hlf8 : 1 ≤ ndE g q1 := hlf0.2
    have hlf9 : 1 ≤ ndE g q2 := hlf1.2
    refine lv_aload_n hx hb dX0_value_227 rfl (lv_at hl 0 rfl) ?_
    refine lv_aload_n hx hb dX0_value_228 rfl (lv_at hl 1 rfl) ?_
    have hO : OKP G h0 a (upd (upd (upd (upd (upd (upd (upd (upd (upd (upd F 2 (nI sz)) 5 (nI cs)) 7 (nI hd)) 12 (nI vr)) 13 as9) 2 (nI sz)) 5 (nI cs)) 7 (nI hd)) 12 (nI vr)) 13 as9) (updR (updR (updR (updR R 2 (.ref pq)) 3 (.ref mq)) 2 (.ref pq)) 3 (.ref mq)) Z B J K w := hO.to rfl
    obtain ⟨_, qr820, hqr821⟩ := hO.2.1 24 _ (sg_24 G h0 a _ _ _ _ _)
    refine pn_V0 (G := G) (As := [.ref q]) (rest := []) hx hb hml hown hq hE hX pX0_al hP hD hS hA hl.1 (Y_element l G h0 a (upd (upd (upd (upd (upd F 2 (nI sz)) 5 (nI cs)) 7 (nI hd)) 12 (nI vr)) 13 as9) (updR (updR R 2 (.ref pq)) 3 (.ref mq)) Z B J K w pq dr ml nd nm cp it s9 q mq cs vr sz n q1 q2 g rk pb Ag pd sl os m9 sn lo hd c0 as9 okA (by omega) (BdE.wp BdE.rfl hwp) (BdE.pt BdE.rfl hwp hps) (BdE.rko BdE.rfl hrk) (by omega) (by omega) hng hmq hqT hqL (EkA.be BdE.rfl (BeR.rfl 7 (by decide)) (BeR.rfl 11 (by decide)) hek) (OwC.be BdE.rfl hmq hdr0 hcO) (NaB.be BdE.rfl BeF.rfl hwp hps.2.1 hdr0 (BeR.rfl 11 (by decide)) hna) (EnV.of (BeR.rfl 26 (by decide)) (BeR.rfl 27 (by decide)) hen) (fun z => (hev0 z).1) (by omega) hop hlf hc0 ht0 hv0 hlf0 hin0 hc1 ht1 hv1 hlf1 hin1 htl hnd0 hnd1 ihv hO hl0) (gV pw_249 pw_250 pw_251 pw_63 pw_206) hV_X0_element qr820 0 hqr821 rfl rfl rfl (Nat.le_of_ble_eq_true rfl) dX0_value_229 ⟨(by show 0 + 1 ≤ 1; omega), (by show 0 + 6 ≤ 6; omega)⟩ ⟨(by show (5 * n + 33) + 1 ≤ (5 * n + 34); omega), (by show 8 + (3 + 11) + (200 * n + 560) ≤ (200 * n + 600); omega)⟩ (fun v819 u817 H locs hw818 hP hD hS => ?_) (fun ux ce9 q9 H9 locs9 hux hP9 hD9 hS9 hce hcv hcl => pb_out ux (ThQ.up (Thx.same (Thx.same (Thx.same (Thx.same (Thx.same Thx.rfl rfl) rfl) rfl) rfl) rfl) (show RhX (updR (updR R 2 (.ref pq)) 3 (.ref mq)) (updR (updR (updR (updR R 2 (.ref pq)) 3 (.ref mq)) 2 (.ref pq)) 3 (.ref mq)) from fun k9 hk9 => by unfold updR; simp only [show ¬ k9 = 1 by omega, show ¬ k9 = 2 by omega, show ¬ k9 = 3 by omega, show ¬ k9 = 4 by omega, if_false]) hux) hnt hlocks hce hcv hcl hP9 hD9 hS9 (by show 0 + 1 ≤ 1; omega) (by show 0 + 6 ≤ 6; omega))
    obtain ⟨w, K822, B823, cs824, as825, wt826, wf827, t828, Ag829, u830⟩ := u817
    obtain ⟨hw818, h831, h832, h833, h834, h835, h836, h837, h838, h839, h840, h841, h842, hO⟩ := hw818
    have h831 : SmW B B823 cs := h831
    have h832 : BdE K K822 := h832
    have h833 : BeF K K822 := h833
    have h834 : BeL K K822 none := h834
    have h835 : BeI K K822 g q := h835
    have h836 : Bth B B823 := h836
    have h837 : BeR B B823 := h837
    have h838 : t828 < 128 := h838
    have h839 : cs ≤ cs824 ∧ cs824 + 2 ≤ cs + 2 * tlE g q := h839
    have h840 : AsE as9 as825 := h840
    have h841 : okA → EvB pb B B823 Ag Ag829 pd m9 sn lo cs cs824 as9 as825 hd sl (u830 :: (t828 + 64) :: os) := h841
    have h842 : t828 < 64 := h842
    obtain rfl : v819 = some (.int (nI t828)) := hw818
    have hf843 : K822.1 pq = 7 := (BdE.T h832 hp1 (by decide))
    have hf844 : K822.2.2.1 18 pq = some (a 1) := (BdE.C h832 (by rw [hp1]; decide) 18).trans hp2
    have hf845 : K822.2.2.1 14 pq = some dr := (BdE.C h832 (by rw [hp1]; decide) 14).trans hp3
    have hf846 : K822.1 dr = 8 := (BdE.T h832 hp4 (by decide))
    have hf847 : K822.2.2.1 15 pq = some ml := (BdE.C h832 (by rw [hp1]; decide) 15).trans hp5
    have hf848 : K822.1 ml = 5 := (BdE.T h832 hp6 (by decide))
    have hf849 : K822.2.1 24 pq = (nI nd) := (BdE.I h832 (by rw [hp1]; decide) (by decide) (by decide)).trans hp8
    have hf850 : K822.1 q = 1 := (BdE.T h832 hqT (by decide))
    have hf851 : K822.1 mq = 3 := (BdE.T h832 hmq (by decide))
    have hf852 : K822.2.1 0 q = 14 := (BdE.I h832 (by rw [hqT]; decide) (by decide) (by decide)).trans hkd
    have hf853 : K822.2.1 1 q = tk := (BdE.I h832 (by rw [hqT]; decide) (by decide) (by decide)).trans htk
    have hf854 : K822.2.2.1 0 q = some q1 := (BdE.C h832 (by rw [hqT]; decide) 0).trans hc0
    have hf855 : K822.1 q1 = 1 := (BdE.T h832 ht0 (by decide))
    have hf856 : K822.2.2.1 1 q = some q2 := (BdE.C h832 (by rw [hqT]; decide) 1).trans hc1
    have hf857 : K822.1 q2 = 1 := (BdE.T h832 ht1 (by decide))
    have hO : OKP G h0 a (upd (upd (upd (upd (upd (upd (upd F 2 (nI sz)) 5 (nI cs824)) 7 (nI hd)) 12 (nI vr)) 13 as825) 14 wt826) 15 wf827) (updR (updR R 2 (.ref pq)) 3 (.ref mq)) Z B823 J K822 w := hO.to rfl
    refine W.widen (k := 0) (n := 0) (by show 0 + 0 ≤ 0; omega) (by show 0 + 0 ≤ 0; omega) ?_
    refine W.eq (g2 := F0 m 232 ls [.int (nI t828)]) rfl ?_
    have hbe858 := BdE.trans BdE.rfl h832
    have hbb859 : Bth B B823 := Bth.trans (show Thx (upd (upd (upd (upd (upd F 2 (nI sz)) 5 (nI cs)) 7 (nI hd)) 12 (nI vr)) 13 as9) (upd (upd (upd (upd (upd F 2 (nI sz)) 5 (nI cs)) 7 (nI hd)) 12 (nI vr)) 13 as9) B B from Thx.rfl).2 h836
    have hng860 : Nng (B823 18) := h836.2 hng
    have hsw861 : ∀ x9 : Nat, x9 < cs → (B823 16) x9 = B 16 x9 := fun x9 hx9 => ((h831 x9 (by omega)).1).trans ((fun _ _ => rfl) x9 hx9)
    have hsw862 : ∀ x9 : Nat, x9 < cs → (B823 17) x9 = B 17 x9 := fun x9 hx9 => ((h831 x9 (by omega)).2.1).trans ((fun _ _ => rfl) x9 hx9)
    have hsw863 : ∀ x9 : Nat, x9 < cs → (B823 18) x9 = B 18 x9 := fun x9 hx9 => ((h831 x9 (by omega)).2.2.1).trans ((fun _ _ => rfl) x9 hx9)
    have hsw864 : ∀ x9 : Nat, x9 < cs → (B823 19) x9 = B 19 x9 := fun x9 hx9 => ((h831 x9 (by omega)).2.2.2).trans ((fun _ _ => rfl) x9 hx9)
    have hbf865 := BeF.trans BeF.rfl h833 BdE.rfl
    have hbl867 := BeL.trans BeL.rfl h834 BdE.rfl
    have hbi868 := BeI.trans BeI.rfl h835 BdE.rfl InE.rfl
    have hbr866 : BeR B B823 := BeR.trans BeR.rfl h837
    have has869 : AsE as9 as825 := AsE.trans AsE.rfl h840
    refine lv_istore_n (lv' := [(2, .int (nI t828)), (0, .ref (a 4)), (1, .ref q)]) hx hb dX0_value_232 rfl hl (by decide) rfl (fun ls hl => ?_)
    refine lv_aload_n hx hb dX0_value_233 rfl (lv_at hl 1 rfl) ?_
    refine c_get (v := .ref (a 2)) (C := RX0) (Tc := TX0) (N := 13) (ci := 0) hx hb hq pin_wsX00 hown hE hP hO 24 (sg_24 G h0 a _ _ _ _ _) rfl 1 (by decide) (hq _ pw_5) (fun _ h9 => h9) rfl dX0_value_234 ?_
    refine lv_bipush (v := 19) hx hb dX0_value_237 (by decide) ?_
    refine lv_iconst (v := 0) hx hb dX0_value_239 (by decide) ?_
    refine lv_iconst (v := 0) hx hb dX0_value_240 (by decide) ?_
    have hev870 : okA → EvQ pb.1 pb.2.1 pb.2.2.1 pb.2.2.2 (B 16) (B 17) (B 18) (B 19) (B823 16) (B823 17) (B823 18) (B823 19) Ag Ag829 pd m9 sn lo cs cs824 as9 as825 hd sl (u830 :: (t828 + 64) :: os) := h841
    have hO : OKW G h0 a (upd (upd (upd (upd (upd (upd (upd (upd (upd F 2 (nI sz)) 5 (nI cs824)) 7 (nI hd)) 12 (nI vr)) 13 as825) 14 wt826) 15 wf827) 5 (nI cs824)) 7 (nI hd)) (updR (updR R 2 (.ref pq)) 3 (.ref mq)) Z B823 J K822.1 (fun q99 x99 => x99 = rep G a K822 q99) w := hO.to rfl
    obtain ⟨_, qr874, hqr875⟩ := hO.2.1 13 _ (sg_13 G h0 a _ _ _ _ _)
    refine pc_V0 (G := G) (As := [.int 19, .int 0, .int 0]) (rest := []) hx hb hml hown hq hE hX pX0_al hP hD hS hA hl.1 (Y_emit l G h0 a (upd (upd (upd (upd (upd (upd (upd F 2 (nI sz)) 5 (nI cs824)) 7 (nI hd)) 12 (nI vr)) 13 as825) 14 wt826) 15 wf827) (updR (updR R 2 (.ref pq)) 3 (.ref mq)) Z B823 J K822.1 (fun q99 x99 => x99 = rep G a K822 q99) w 19 0 0 cs824 hd (by omega) hO) (gV pw_129 pw_130 pw_131 pw_70 pw_115) hV_X1_emit qr874 1 hqr875 rfl rfl rfl (Nat.le_of_ble_eq_true rfl) dX0_value_241 ⟨(by show 0 + 0 ≤ 1; omega), (by show 0 + 0 ≤ 6; omega)⟩ ⟨(by show 2 + 1 ≤ (5 * n + 34); omega), (by show 8 + (4 + 11) + 60 ≤ (200 * n + 600); omega)⟩ (fun v873 u871 H locs hw872 hP hD hS => ?_)
    obtain ⟨w, _⟩ := u871
    obtain ⟨hw872, hO⟩ := hw872
    obtain rfl : v873 = none := hw872
    have hO : OKP G h0 a (upd (upd (upd (upd (upd (upd (upd F 2 (nI sz)) 5 (nI (cs824 + 1))) 7 (nI hd)) 12 (nI vr)) 13 as825) 14 wt826) 15 wf827) (updR (updR R 2 (.ref pq)) 3 (.ref mq)) Z (updA (updA (updA (updA B823 16 (upd ((B823 16)) cs824 19)) 17 (upd ((B823 17)) cs824 0)) 18 (upd ((B823 18)) cs824 0)) 19 (upd ((B823 19)) cs824 (nI hd))) J K822 w := hO.to rfl
    refine W.widen (k := 0) (n := 0) (Nat.le_of_ble_eq_true rfl) (Nat.le_of_ble_eq_true rfl) ?_
    refine W.eq (g2 := F0 m 244 ls []) rfl ?_
    have hsw876 : ∀ x9 : Nat, x9 < cs → (upd ((B823 16)) cs824 19) x9 = B 16 x9 := fun x9 hx9 => (if_neg (by omega)).trans (hsw861 x9 hx9)
    have hsw877 : ∀ x9 : Nat, x9 < cs → (upd ((B823 17)) cs824 0) x9 = B 17 x9 := fun x9 hx9 => (if_neg (by omega)).trans (hsw862 x9 hx9)
    have hsw878 : ∀ x9 : Nat, x9 < cs → (upd ((B823 18)) cs824 0) x9 = B 18 x9 := fun x9 hx9 => (if_neg (by omega)).trans (hsw863 x9 hx9)
    have hsw879 : ∀ x9 : Nat, x9 < cs → (upd ((B823 19)) cs824 (nI hd)) x9 = B 19 x9 := fun x9 hx9 => (if_neg (by omega)).trans (hsw864 x9 hx9)
    obtain ⟨Ag880, hev881⟩ : ∃ A5 : Nat → AS, okA → EvQ pb.1 pb.2.1 pb.2.2.1 pb.2.2.2 (B 16) (B 17) (B 18) (B 19) (upd ((B823 16)) cs824 19) (upd ((B823 17)) cs824 0) (upd ((B823 18)) cs824 0) (upd ((B823 19)) cs824 (nI hd)) Ag A5 pd m9 sn lo cs (cs824 + 1) as9 as825 hd sl (t828 :: os) := ⟨(upS Ag829 (cs824 + 1) (rcA as825, hd, sl, (t828 :: os))), fun z => (hev870 z).trans (EmS.elemT (hev870 z).1 (by show os.length + 1 + 1 ≤ 248; omega) h842)⟩
    have hng9 : Nng (upd ((B823 18)) cs824 0) := Nng.set hng860 (k := 0) (by omega)
    have hng882 := hng9
    refine lv_goto (tgt := 298) hx hb dX0_value_244 (by decide) ?_
    refine lv_aload_n hx hb dX0_value_298 rfl (lv_at hl 1 rfl) ?_
    refine lv_aload_n hx hb dX0_value_299 rfl (lv_at hl 1 rfl) ?_
    refine c_get (v := .int as825) (C := RX0) (Tc := TX0) (N := 13) (ci := 0) hx hb hq pin_wsX00 hown hE hP hO 24 (sg_24 G h0 a _ _ _ _ _) rfl 8 (by decide) (hq _ pw_55) (fun _ h9 => h9) rfl dX0_value_300 ?_
    refine c_put (v := .int as825) (ty := .int) (C := RX0) (Tc := TX0) (N := 13) (ci := 0) hx hb hq pin_wsX00 tyX0 tyX0_ok nmX0 hown hE hP hD hS hO 24 (sg_24 G h0 a _ _ _ _ _) rfl 9 (by decide) (hq _ pw_156) (fun _ h9 => h9) rfl (by decide +kernel) rfl rfl (Nat.le_of_ble_eq_true rfl) (sf_14 G h0 a _ _ _ _ _ as825) dX0_value_303 (fun H locs w hP hD hS hO => ?_)
    refine lv_aload_n hx hb dX0_value_306 rfl (lv_at hl 1 rfl) ?_
    refine lv_aload_n hx hb dX0_value_307 rfl (lv_at hl 1 rfl) ?_
    refine c_get (v := .int as825) (C := RX0) (Tc := TX0) (N := 13) (ci := 0) hx hb hq pin_wsX00 hown hE hP hO 24 (sg_24 G h0 a _ _ _ _ _) rfl 8 (by decide) (hq _ pw_55) (fun _ h9 => h9) rfl dX0_value_308 ?_
    refine c_put (v := .int as825) (ty := .int) (C := RX0) (Tc := TX0) (N := 13) (ci := 0) hx hb hq pin_wsX00 tyX0 tyX0_ok nmX0 hown hE hP hD hS hO 24 (sg_24 G h0 a _ _ _ _ _) rfl 10 (by decide) (hq _ pw_157) (fun _ h9 => h9) rfl (by decide +kernel) rfl rfl (Nat.le_of_ble_eq_true rfl) (sf_15 G h0 a _ _ _ _ _ as825) dX0_value_311 (fun H locs w hP hD hS hO => ?_)
    refine lv_iload_n hx hb dX0_value_314 rfl (lv_at hl 0 rfl) ?_
    refine W_size (fun hz1 hz2 => ?_)
    refine vx_ret ?_
    have hz883 : SmW B (updA (updA (updA (updA B823 16 (upd ((B823 16)) cs824 19)) 17 (upd ((B823 17)) cs824 0)) 18 (upd ((B823 18)) cs824 0)) 19 (upd ((B823 19)) cs824 (nI hd))) cs := (fun x9 hx9 => ⟨hsw876 x9 hx9, hsw877 x9 hx9, hsw878 x9 hx9, hsw879 x9 hx9⟩)
    have hz884 : BdE K K822 := hbe858
    have hz885 : BeF K K822 := hbf865
    have hz886 : BeL K K822 none := hbl867
    have hz887 : BeI K K822 g q := hbi868
    have hz888 : Bth B (updA (updA (updA (updA B823 16 (upd ((B823 16)) cs824 19)) 17 (upd ((B823 17)) cs824 0)) 18 (upd ((B823 18)) cs824 0)) 19 (upd ((B823 19)) cs824 (nI hd))) := (show Thx (upd (upd (upd (upd (upd F 2 (nI sz)) 5 (nI cs)) 7 (nI hd)) 12 (nI vr)) 13 as9) (upd (upd (upd (upd (upd (upd (upd (upd (upd F 2 (nI sz)) 5 (nI cs)) 7 (nI hd)) 12 (nI vr)) 13 as9) 5 (nI (cs824 + 1))) 13 as825) 14 as825) 15 as825) B (updA (updA (updA (updA B823 16 (upd ((B823 16)) cs824 19)) 17 (upd ((B823 17)) cs824 0)) 18 (upd ((B823 18)) cs824 0)) 19 (upd ((B823 19)) cs824 (nI hd))) from (Thx.b (Thx.b8 (Thx.b (Thx.b (Thx.f (Thx.f (Thx.f (Thx.f (Bth.thx hbb859) (by omega)) (by omega)) (by omega)) (by omega)) (by omega) (by decide)) (by omega) (by decide)) hng882) (by omega) (by decide))).2
    have hz889 : BeR B (updA (updA (updA (updA B823 16 (upd ((B823 16)) cs824 19)) 17 (upd ((B823 17)) cs824 0)) 18 (upd ((B823 18)) cs824 0)) 19 (upd ((B823 19)) cs824 (nI hd))) := (BeR.up (k := 19) (f := (upd ((B823 19)) cs824 (nI hd))) (BeR.up (k := 18) (f := (upd ((B823 18)) cs824 0)) (BeR.up (k := 17) (f := (upd ((B823 17)) cs824 0)) (BeR.up (k := 16) (f := (upd ((B823 16)) cs824 19)) hbr866 (by omega)) (by omega)) (by omega)) (by omega))
    have hz890 : t828 < 128 := (by omega)
    have hz891 : cs ≤ (cs824 + 1) ∧ (cs824 + 1) + 0 ≤ cs + 2 * tlE g q := (by omega)
    have hz892 : AsE as9 as825 ∧ AsE as9 as825 ∧ AsE as9 as825 := ⟨has869, has869, has869⟩
    have hz893 : okA → VaQ pb B (updA (updA (updA (updA B823 16 (upd ((B823 16)) cs824 19)) 17 (upd ((B823 17)) cs824 0)) 18 (upd ((B823 18)) cs824 0)) 19 (upd ((B823 19)) cs824 (nI hd))) Ag Ag880 pd m9 sn lo cs (cs824 + 1) as9 as825 as825 as825 hd sl os t828 t828 (K.2.1 0 q) := (fun z => by by_cases e9 : t828 = 63; exact Or.inl ⟨e9, by rw [hkd]; unfold CaK; decide⟩; exact Or.inr ⟨by rw [rsO_ne e9]; exact hev881 z, UTb.ty (by omega), by omega⟩)
    have hz894 : CaK (K.2.1 0 q) → (cs824 + 1) + 2 ≤ cs + 2 * tlE g q := (fun z9 => absurd z9 (by rw [hkd]; unfold CaK; decide))
    have hO : OKP G h0 a (upd (upd (upd (upd (upd (upd (upd F 2 (nI sz)) 5 (nI (cs824 + 1))) 7 (nI hd)) 12 (nI vr)) 13 as825) 14 as825) 15 as825) (updR (updR R 2 (.ref pq)) 3 (.ref mq)) Z (updA (updA (updA (updA B823 16 (upd ((B823 16)) cs824 19)) 17 (upd ((B823 17)) cs824 0)) 18 (upd ((B823 18)) cs824 0)) 19 (upd ((B823 19)) cs824 (nI hd))) J K822 w := hO.to rfl
    refine W.widen (k := 1) (n := 6) (by omega) (by omega) ?_
    have hzz1 : H.size ≤ s.heap.size + (0) := (by have z : 0 ≤ 0 := (by omega); omega)
    have hzz2 : hSl H ≤ hSl s.heap + (0) := (by have z : 0 ≤ 0 := (by omega); omega)
    exact W.iret (v := (nI t828)) hx hb hr (fun t99 ht99 hW99 => ⟨⟨_, (w, (K822, (updA (updA (updA (updA B823 16 (upd ((B823 16)) cs824 19)) 17 (upd ((B823 17)) cs824 0)) 18 (upd ((B823 18)) cs824 0)) 19 (upd ((B823 19)) cs824 (nI hd))), (cs824 + 1), as825, as825, as825, t828, Ag880, t828)), rfl, ⟨rfl, hz883, hz884, hz885, hz886, hz887, hz888, hz889, hz890, hz891, hz892, hz893, hz894, hO⟩, by rw [ht99]; exact hP, hD, by rw [ht99]; exact hzz1, by rw [ht99]; exact hzz2⟩, hS.F ht99⟩) hS.2.2 dX0_value_315
  by_cases h895 : kd = 15
  · subst h895
    refine lv_tableIn (tgt := 166) (off := 162) hx hb dX0_value_4 (by decide) (by decide) (by decide) (by decide) ?_
    have hnd := hwp.1 q hqT hqL.1
    obtain ⟨q1, hc0, ht0, hw0⟩ := NdO.ch hnd (f := 0) (by decide) (hnd.1.1 (by rw [hkd]; decide))
    have hv0 : 1 ≤ g 0 q1 ∧ g 0 q1 + 1 ≤ n := ⟨hw0.1, (by have z := hw0.2; omega)⟩
    obtain ⟨hlf0, htl, hnd0, hin0⟩ := hek9.1 (by rw [hkd]; decide) q1 hc0
    refine lv_aload_n hx hb dX0_value_166 rfl (lv_at hl 0 rfl) ?_
    refine lv_aload_n hx hb dX0_value_167 rfl (lv_at hl 1 rfl) ?_
    have hO : OKP G h0 a (upd (upd (upd (upd (upd (upd (upd (upd (upd (upd F 2 (nI sz)) 5 (nI cs)) 7 (nI hd)) 12 (nI vr)) 13 as9) 2 (nI sz)) 5 (nI cs)) 7 (nI hd)) 12 (nI vr)) 13 as9) (updR (updR (updR (updR R 2 (.ref pq)) 3 (.ref mq)) 2 (.ref pq)) 3 (.ref mq)) Z B J K w := hO.to rfl
    obtain ⟨_, qr899, hqr900⟩ := hO.2.1 24 _ (sg_24 G h0 a _ _ _ _ _)
    refine pn_V0 (G := G) (As := [.ref q]) (rest := []) hx hb hml hown hq hE hX pX0_al hP hD hS hA hl.1 (Y_prefixE l G h0 a (upd (upd (upd (upd (upd F 2 (nI sz)) 5 (nI cs)) 7 (nI hd)) 12 (nI vr)) 13 as9) (updR (updR R 2 (.ref pq)) 3 (.ref mq)) Z B J K w pq dr ml nd nm cp it s9 q mq cs vr sz n q1 g rk pb Ag pd sl os m9 sn lo hd c0 as9 okA (by omega) (BdE.wp BdE.rfl hwp) (BdE.pt BdE.rfl hwp hps) (BdE.rko BdE.rfl hrk) (by omega) (by omega) hng hmq hqT hqL (EkA.be BdE.rfl (BeR.rfl 7 (by decide)) (BeR.rfl 11 (by decide)) hek) (OwC.be BdE.rfl hmq hdr0 hcO) (NaB.be BdE.rfl BeF.rfl hwp hps.2.1 hdr0 (BeR.rfl 11 (by decide)) hna) (EnV.of (BeR.rfl 26 (by decide)) (BeR.rfl 27 (by decide)) hen) (fun z => (hev0 z).1) (by omega) hop hlf hc0 ht0 hv0 hlf0 hin0 htl hnd0 (hek9.2.2.2.2.1 hkd) ihv hO hl0) (gV pw_237 pw_238 pw_239 pw_63 pw_215) hV_X0_prefix qr899 0 hqr900 rfl rfl rfl (Nat.le_of_ble_eq_true rfl) dX0_value_168 ⟨(by show 0 + 1 ≤ 1; omega), (by show 0 + 6 ≤ 6; omega)⟩ ⟨(by show (5 * n + 33) + 1 ≤ (5 * n + 34); omega), (by show 8 + (2 + 11) + (200 * n + 560) ≤ (200 * n + 600); omega)⟩ (fun v898 u896 H locs hw897 hP hD hS => ?_) (fun ux ce9 q9 H9 locs9 hux hP9 hD9 hS9 hce hcv hcl => pb_out ux (ThQ.up (Thx.same (Thx.same (Thx.same (Thx.same (Thx.same Thx.rfl rfl) rfl) rfl) rfl) rfl) (show RhX (updR (updR R 2 (.ref pq)) 3 (.ref mq)) (updR (updR (updR (updR R 2 (.ref pq)) 3 (.ref mq)) 2 (.ref pq)) 3 (.ref mq)) from fun k9 hk9 => by unfold updR; simp only [show ¬ k9 = 1 by omega, show ¬ k9 = 2 by omega, show ¬ k9 = 3 by omega, show ¬ k9 = 4 by omega, if_false]) hux) hnt hlocks hce hcv hcl hP9 hD9 hS9 (by show 0 + 1 ≤ 1; omega) (by show 0 + 6 ≤ 6; omega))
    obtain ⟨w, K901, B902, cs903, as904, wt905, wf906, t907, Ag908⟩ := u896
    obtain ⟨hw897, h909, h910, h911, h912, h913, h914, h915, h916, h917, h918, h919, hO⟩ := hw897
    have h909 : SmW B B902 cs := h909
    have h910 : BdE K K901 := h910
    have h911 : BeF K K901 := h911
    have h912 : BeL K K901 none := h912
    have h913 : BeI K K901 g q := h913
    have h914 : Bth B B902 := h914
    have h915 : BeR B B902 := h915
    have h916 : t907 < 128 := h916
    have h917 : cs ≤ cs903 ∧ cs903 + 0 ≤ cs + 2 * tlE g q := h917
    have h918 : AsE as9 as904 := h918
    have h919 : okA → PlQ pb B B902 Ag Ag908 pd m9 sn lo cs cs903 as9 as904 hd sl os t907 (K.2.1 0 q) := h919
    obtain rfl : v898 = some (.int (nI t907)) := hw897
    have hf920 : K901.1 pq = 7 := (BdE.T h910 hp1 (by decide))
    have hf921 : K901.2.2.1 18 pq = some (a 1) := (BdE.C h910 (by rw [hp1]; decide) 18).trans hp2
    have hf922 : K901.2.2.1 14 pq = some dr := (BdE.C h910 (by rw [hp1]; decide) 14).trans hp3
    have hf923 : K901.1 dr = 8 := (BdE.T h910 hp4 (by decide))
    have hf924 : K901.2.2.1 15 pq = some ml := (BdE.C h910 (by rw [hp1]; decide) 15).trans hp5
    have hf925 : K901.1 ml = 5 := (BdE.T h910 hp6 (by decide))
    have hf926 : K901.2.1 24 pq = (nI nd) := (BdE.I h910 (by rw [hp1]; decide) (by decide) (by decide)).trans hp8
    have hf927 : K901.1 q = 1 := (BdE.T h910 hqT (by decide))
    have hf928 : K901.1 mq = 3 := (BdE.T h910 hmq (by decide))
    have hf929 : K901.2.1 0 q = 15 := (BdE.I h910 (by rw [hqT]; decide) (by decide) (by decide)).trans hkd
    have hf930 : K901.2.1 1 q = tk := (BdE.I h910 (by rw [hqT]; decide) (by decide) (by decide)).trans htk
    have hf931 : K901.2.2.1 0 q = some q1 := (BdE.C h910 (by rw [hqT]; decide) 0).trans hc0
    have hf932 : K901.1 q1 = 1 := (BdE.T h910 ht0 (by decide))
    have hO : OKP G h0 a (upd (upd (upd (upd (upd (upd (upd F 2 (nI sz)) 5 (nI cs903)) 7 (nI hd)) 12 (nI vr)) 13 as904) 14 wt905) 15 wf906) (updR (updR R 2 (.ref pq)) 3 (.ref mq)) Z B902 J K901 w := hO.to rfl
    refine W.widen (k := 0) (n := 0) (by show 0 + 0 ≤ 0; omega) (by show 0 + 0 ≤ 0; omega) ?_
    refine W.eq (g2 := F0 m 171 ls [.int (nI t907)]) rfl ?_
    have hbe933 := BdE.trans BdE.rfl h910
    have hbb934 : Bth B B902 := Bth.trans (show Thx (upd (upd (upd (upd (upd F 2 (nI sz)) 5 (nI cs)) 7 (nI hd)) 12 (nI vr)) 13 as9) (upd (upd (upd (upd (upd F 2 (nI sz)) 5 (nI cs)) 7 (nI hd)) 12 (nI vr)) 13 as9) B B from Thx.rfl).2 h914
    have hng935 : Nng (B902 18) := h914.2 hng
    have hsw936 : ∀ x9 : Nat, x9 < cs → (B902 16) x9 = B 16 x9 := fun x9 hx9 => ((h909 x9 (by omega)).1).trans ((fun _ _ => rfl) x9 hx9)
    have hsw937 : ∀ x9 : Nat, x9 < cs → (B902 17) x9 = B 17 x9 := fun x9 hx9 => ((h909 x9 (by omega)).2.1).trans ((fun _ _ => rfl) x9 hx9)
    have hsw938 : ∀ x9 : Nat, x9 < cs → (B902 18) x9 = B 18 x9 := fun x9 hx9 => ((h909 x9 (by omega)).2.2.1).trans ((fun _ _ => rfl) x9 hx9)
    have hsw939 : ∀ x9 : Nat, x9 < cs → (B902 19) x9 = B 19 x9 := fun x9 hx9 => ((h909 x9 (by omega)).2.2.2).trans ((fun _ _ => rfl) x9 hx9)
    have hbf940 := BeF.trans BeF.rfl h911 BdE.rfl
    have hbl942 := BeL.trans BeL.rfl h912 BdE.rfl
    have hbi943 := BeI.trans BeI.rfl h913 BdE.rfl InE.rfl
    have hbr941 : BeR B B902 := BeR.trans BeR.rfl h915
    have has944 : AsE as9 as904 := AsE.trans AsE.rfl h918
    refine lv_istore_n (lv' := [(2, .int (nI t907)), (0, .ref (a 4)), (1, .ref q)]) hx hb dX0_value_171 rfl hl (by decide) rfl (fun ls hl => ?_)
    refine lv_goto (tgt := 298) hx hb dX0_value_172 (by decide) ?_
    refine lv_aload_n hx hb dX0_value_298 rfl (lv_at hl 1 rfl) ?_
    refine lv_aload_n hx hb dX0_value_299 rfl (lv_at hl 1 rfl) ?_
    refine c_get (v := .int as904) (C := RX0) (Tc := TX0) (N := 13) (ci := 0) hx hb hq pin_wsX00 hown hE hP hO 24 (sg_24 G h0 a _ _ _ _ _) rfl 8 (by decide) (hq _ pw_55) (fun _ h9 => h9) rfl dX0_value_300 ?_
    refine c_put (v := .int as904) (ty := .int) (C := RX0) (Tc := TX0) (N := 13) (ci := 0) hx hb hq pin_wsX00 tyX0 tyX0_ok nmX0 hown hE hP hD hS hO 24 (sg_24 G h0 a _ _ _ _ _) rfl 9 (by decide) (hq _ pw_156) (fun _ h9 => h9) rfl (by decide +kernel) rfl rfl (Nat.le_of_ble_eq_true rfl) (sf_14 G h0 a _ _ _ _ _ as904) dX0_value_303 (fun H locs w hP hD hS hO => ?_)
    refine lv_aload_n hx hb dX0_value_306 rfl (lv_at hl 1 rfl) ?_
    refine lv_aload_n hx hb dX0_value_307 rfl (lv_at hl 1 rfl) ?_
    refine c_get (v := .int as904) (C := RX0) (Tc := TX0) (N := 13) (ci := 0) hx hb hq pin_wsX00 hown hE hP hO 24 (sg_24 G h0 a _ _ _ _ _) rfl 8 (by decide) (hq _ pw_55) (fun _ h9 => h9) rfl dX0_value_308 ?_
    refine c_put (v := .int as904) (ty := .int) (C := RX0) (Tc := TX0) (N := 13) (ci := 0) hx hb hq pin_wsX00 tyX0 tyX0_ok nmX0 hown hE hP hD hS hO 24 (sg_24 G h0 a _ _ _ _ _) rfl 10 (by decide) (hq _ pw_157) (fun _ h9 => h9) rfl (by decide +kernel) rfl rfl (Nat.le_of_ble_eq_true rfl) (sf_15 G h0 a _ _ _ _ _ as904) dX0_value_311 (fun H locs w hP hD hS hO => ?_)
    refine lv_iload_n hx hb dX0_value_314 rfl (lv_at hl 0 rfl) ?_
    refine W_size (fun hz1 hz2 => ?_)
    refine vx_ret ?_
    have hz945 : SmW B B902 cs := (fun x9 hx9 => ⟨hsw936 x9 hx9, hsw937 x9 hx9, hsw938 x9 hx9, hsw939 x9 hx9⟩)
    have hz946 : BdE K K901 := hbe933
    have hz947 : BeF K K901 := hbf940
    have hz948 : BeL K K901 none := hbl942
    have hz949 : BeI K K901 g q := hbi943
    have hz950 : Bth B B902 := (show Thx (upd (upd (upd (upd (upd F 2 (nI sz)) 5 (nI cs)) 7 (nI hd)) 12 (nI vr)) 13 as9) (upd (upd (upd (upd (upd (upd (upd (upd (upd F 2 (nI sz)) 5 (nI cs)) 7 (nI hd)) 12 (nI vr)) 13 as9) 5 (nI cs903)) 13 as904) 14 as904) 15 as904) B B902 from (Thx.f (Thx.f (Thx.f (Thx.f (Bth.thx hbb934) (by omega)) (by omega)) (by omega)) (by omega))).2
    have hz951 : BeR B B902 := hbr941
    have hz952 : t907 < 128 := (by omega)
    have hz953 : cs ≤ cs903 ∧ cs903 + 0 ≤ cs + 2 * tlE g q := (by omega)
    have hz954 : AsE as9 as904 ∧ AsE as9 as904 ∧ AsE as9 as904 := ⟨has944, has944, has944⟩
    have hz955 : okA → VaQ pb B B902 Ag Ag908 pd m9 sn lo cs cs903 as9 as904 as904 as904 hd sl os t907 t907 (K.2.1 0 q) := (fun z => PlQ.va (h919 z) h916)
    have hz956 : CaK (K.2.1 0 q) → cs903 + 2 ≤ cs + 2 * tlE g q := (fun z9 => absurd z9 (by rw [hkd]; unfold CaK; decide))
    have hO : OKP G h0 a (upd (upd (upd (upd (upd (upd (upd F 2 (nI sz)) 5 (nI cs903)) 7 (nI hd)) 12 (nI vr)) 13 as904) 14 as904) 15 as904) (updR (updR R 2 (.ref pq)) 3 (.ref mq)) Z B902 J K901 w := hO.to rfl
    refine W.widen (k := 1) (n := 6) (by omega) (by omega) ?_
    have hzz1 : H.size ≤ s.heap.size + (0) := (by have z : 0 ≤ 0 := (by omega); omega)
    have hzz2 : hSl H ≤ hSl s.heap + (0) := (by have z : 0 ≤ 0 := (by omega); omega)
    exact W.iret (v := (nI t907)) hx hb hr (fun t99 ht99 hW99 => ⟨⟨_, (w, (K901, B902, cs903, as904, as904, as904, t907, Ag908, t907)), rfl, ⟨rfl, hz945, hz946, hz947, hz948, hz949, hz950, hz951, hz952, hz953, hz954, hz955, hz956, hO⟩, by rw [ht99]; exact hP, hD, by rw [ht99]; exact hzz1, by rw [ht99]; exact hzz2⟩, hS.F ht99⟩) hS.2.2 dX0_value_315
  by_cases h957 : kd = 16
  · subst h957
    refine lv_tableIn (tgt := 127) (off := 123) hx hb dX0_value_4 (by decide) (by decide) (by decide) (by decide) ?_
    have hnd := hwp.1 q hqT hqL.1
    obtain ⟨q1, hc0, ht0, hw0⟩ := NdO.ch hnd (f := 0) (by decide) (hnd.1.1 (by rw [hkd]; decide))
    have hv0 : 1 ≤ g 0 q1 ∧ g 0 q1 + 1 ≤ n := ⟨hw0.1, (by have z := hw0.2; omega)⟩
    obtain ⟨hlf0, htl, hnd0, hin0⟩ := hek9.1 (by rw [hkd]; decide) q1 hc0
    refine lv_aload_n hx hb dX0_value_127 rfl (lv_at hl 0 rfl) ?_
    refine lv_aload_n hx hb dX0_value_128 rfl (lv_at hl 1 rfl) ?_
    have hO : OKP G h0 a (upd (upd (upd (upd (upd (upd (upd (upd (upd (upd F 2 (nI sz)) 5 (nI cs)) 7 (nI hd)) 12 (nI vr)) 13 as9) 2 (nI sz)) 5 (nI cs)) 7 (nI hd)) 12 (nI vr)) 13 as9) (updR (updR (updR (updR R 2 (.ref pq)) 3 (.ref mq)) 2 (.ref pq)) 3 (.ref mq)) Z B J K w := hO.to rfl
    obtain ⟨_, qr961, hqr962⟩ := hO.2.1 24 _ (sg_24 G h0 a _ _ _ _ _)
    refine pn_V0 (G := G) (As := [.ref q]) (rest := []) hx hb hml hown hq hE hX pX0_al hP hD hS hA hl.1 (Y_negation l G h0 a (upd (upd (upd (upd (upd F 2 (nI sz)) 5 (nI cs)) 7 (nI hd)) 12 (nI vr)) 13 as9) (updR (updR R 2 (.ref pq)) 3 (.ref mq)) Z B J K w pq dr ml nd nm cp it s9 q mq cs vr sz n q1 g rk pb Ag pd sl os m9 sn lo hd c0 as9 okA (by omega) (BdE.wp BdE.rfl hwp) (BdE.pt BdE.rfl hwp hps) (BdE.rko BdE.rfl hrk) (by omega) (by omega) hng hmq hqT hqL (EkA.be BdE.rfl (BeR.rfl 7 (by decide)) (BeR.rfl 11 (by decide)) hek) (OwC.be BdE.rfl hmq hdr0 hcO) (NaB.be BdE.rfl BeF.rfl hwp hps.2.1 hdr0 (BeR.rfl 11 (by decide)) hna) (EnV.of (BeR.rfl 26 (by decide)) (BeR.rfl 27 (by decide)) hen) (fun z => (hev0 z).1) (by omega) hop hlf hc0 ht0 hv0 hlf0 hin0 htl hnd0 ihv hO hl0) (gV pw_228 pw_229 pw_230 pw_63 pw_213) hV_X0_negation qr961 0 hqr962 rfl rfl rfl (Nat.le_of_ble_eq_true rfl) dX0_value_129 ⟨(by show 0 + 1 ≤ 1; omega), (by show 0 + 6 ≤ 6; omega)⟩ ⟨(by show (5 * n + 33) + 1 ≤ (5 * n + 34); omega), (by show 8 + (3 + 11) + (200 * n + 560) ≤ (200 * n + 600); omega)⟩ (fun v960 u958 H locs hw959 hP hD hS => ?_) (fun ux ce9 q9 H9 locs9 hux hP9 hD9 hS9 hce hcv hcl => pb_out ux (ThQ.up (Thx.same (Thx.same (Thx.same (Thx.same (Thx.same Thx.rfl rfl) rfl) rfl) rfl) rfl) (show RhX (updR (updR R 2 (.ref pq)) 3 (.ref mq)) (updR (updR (updR (updR R 2 (.ref pq)) 3 (.ref mq)) 2 (.ref pq)) 3 (.ref mq)) from fun k9 hk9 => by unfold updR; simp only [show ¬ k9 = 1 by omega, show ¬ k9 = 2 by omega, show ¬ k9 = 3 by omega, show ¬ k9 = 4 by omega, if_false]) hux) hnt hlocks hce hcv hcl hP9 hD9 hS9 (by show 0 + 1 ≤ 1; omega) (by show 0 + 6 ≤ 6; omega))
    obtain ⟨w, K963, B964, cs965, as966, wt967, wf968, t969, Ag970, u971⟩ := u958
    obtain ⟨hw959, h972, h973, h974, h975, h976, h977, h978, h979, h980, h981, h982, hO⟩ := hw959
    have h972 : SmW B B964 cs := h972
    have h973 : BdE K K963 := h973
    have h974 : BeF K K963 := h974
    have h975 : BeL K K963 none := h975
    have h976 : BeI K K963 g q := h976
    have h977 : Bth B B964 := h977
    have h978 : BeR B B964 := h978
    have h979 : t969 < 128 := h979
    have h980 : cs ≤ cs965 ∧ cs965 + 0 ≤ cs + 2 * tlE g q := h980
    have h981 : AsE as9 as966 ∧ AsE as9 wt967 ∧ AsE as9 wf968 := h981
    have h982 : okA → VaQ pb B B964 Ag Ag970 pd m9 sn lo cs cs965 as9 as966 wt967 wf968 hd sl os t969 u971 (K.2.1 0 q) := h982
    obtain rfl : v960 = some (.int (nI t969)) := hw959
    have hf983 : K963.1 pq = 7 := (BdE.T h973 hp1 (by decide))
    have hf984 : K963.2.2.1 18 pq = some (a 1) := (BdE.C h973 (by rw [hp1]; decide) 18).trans hp2
    have hf985 : K963.2.2.1 14 pq = some dr := (BdE.C h973 (by rw [hp1]; decide) 14).trans hp3
    have hf986 : K963.1 dr = 8 := (BdE.T h973 hp4 (by decide))
    have hf987 : K963.2.2.1 15 pq = some ml := (BdE.C h973 (by rw [hp1]; decide) 15).trans hp5
    have hf988 : K963.1 ml = 5 := (BdE.T h973 hp6 (by decide))
    have hf989 : K963.2.1 24 pq = (nI nd) := (BdE.I h973 (by rw [hp1]; decide) (by decide) (by decide)).trans hp8
    have hf990 : K963.1 q = 1 := (BdE.T h973 hqT (by decide))
    have hf991 : K963.1 mq = 3 := (BdE.T h973 hmq (by decide))
    have hf992 : K963.2.1 0 q = 16 := (BdE.I h973 (by rw [hqT]; decide) (by decide) (by decide)).trans hkd
    have hf993 : K963.2.1 1 q = tk := (BdE.I h973 (by rw [hqT]; decide) (by decide) (by decide)).trans htk
    have hf994 : K963.2.2.1 0 q = some q1 := (BdE.C h973 (by rw [hqT]; decide) 0).trans hc0
    have hf995 : K963.1 q1 = 1 := (BdE.T h973 ht0 (by decide))
    have hO : OKP G h0 a (upd (upd (upd (upd (upd (upd (upd F 2 (nI sz)) 5 (nI cs965)) 7 (nI hd)) 12 (nI vr)) 13 as966) 14 wt967) 15 wf968) (updR (updR R 2 (.ref pq)) 3 (.ref mq)) Z B964 J K963 w := hO.to rfl
    refine W.widen (k := 0) (n := 0) (by show 0 + 0 ≤ 0; omega) (by show 0 + 0 ≤ 0; omega) ?_
    refine W.eq (g2 := F0 m 132 ls [.int (nI t969)]) rfl ?_
    have hbe996 := BdE.trans BdE.rfl h973
    have hbb997 : Bth B B964 := Bth.trans (show Thx (upd (upd (upd (upd (upd F 2 (nI sz)) 5 (nI cs)) 7 (nI hd)) 12 (nI vr)) 13 as9) (upd (upd (upd (upd (upd F 2 (nI sz)) 5 (nI cs)) 7 (nI hd)) 12 (nI vr)) 13 as9) B B from Thx.rfl).2 h977
    have hng998 : Nng (B964 18) := h977.2 hng
    have hsw999 : ∀ x9 : Nat, x9 < cs → (B964 16) x9 = B 16 x9 := fun x9 hx9 => ((h972 x9 (by omega)).1).trans ((fun _ _ => rfl) x9 hx9)
    have hsw1000 : ∀ x9 : Nat, x9 < cs → (B964 17) x9 = B 17 x9 := fun x9 hx9 => ((h972 x9 (by omega)).2.1).trans ((fun _ _ => rfl) x9 hx9)
    have hsw1001 : ∀ x9 : Nat, x9 < cs → (B964 18) x9 = B 18 x9 := fun x9 hx9 => ((h972 x9 (by omega)).2.2.1).trans ((fun _ _ => rfl) x9 hx9)
    have hsw1002 : ∀ x9 : Nat, x9 < cs → (B964 19) x9 = B 19 x9 := fun x9 hx9 => ((h972 x9 (by omega)).2.2.2).trans ((fun _ _ => rfl) x9 hx9)
    have hbf1003 := BeF.trans BeF.rfl h974 BdE.rfl
    have hbl1005 := BeL.trans BeL.rfl h975 BdE.rfl
    have hbi1006 := BeI.trans BeI.rfl h976 BdE.rfl InE.rfl
    have hbr1004 : BeR B B964 := BeR.trans BeR.rfl h978
    have has1007 : AsE as9 as966 ∧ AsE as9 wt967 ∧ AsE as9 wf968 := ⟨AsE.trans AsE.rfl h981.1, AsE.trans AsE.rfl h981.2.1, AsE.trans AsE.rfl h981.2.2⟩
    refine W_size (fun hz1 hz2 => ?_)
    refine vx_ret ?_
    have hz1008 : SmW B B964 cs := (fun x9 hx9 => ⟨hsw999 x9 hx9, hsw1000 x9 hx9, hsw1001 x9 hx9, hsw1002 x9 hx9⟩)
    have hz1009 : BdE K K963 := hbe996
    have hz1010 : BeF K K963 := hbf1003
    have hz1011 : BeL K K963 none := hbl1005
    have hz1012 : BeI K K963 g q := hbi1006
    have hz1013 : Bth B B964 := (show Thx (upd (upd (upd (upd (upd F 2 (nI sz)) 5 (nI cs)) 7 (nI hd)) 12 (nI vr)) 13 as9) (upd (upd (upd (upd (upd (upd (upd (upd (upd F 2 (nI sz)) 5 (nI cs)) 7 (nI hd)) 12 (nI vr)) 13 as9) 5 (nI cs965)) 13 as966) 14 wt967) 15 wf968) B B964 from (Thx.f (Thx.f (Thx.f (Thx.f (Bth.thx hbb997) (by omega)) (by omega)) (by omega)) (by omega))).2
    have hz1014 : BeR B B964 := hbr1004
    have hz1015 : t969 < 128 := (by omega)
    have hz1016 : cs ≤ cs965 ∧ cs965 + 0 ≤ cs + 2 * tlE g q := (by omega)
    have hz1017 : AsE as9 as966 ∧ AsE as9 wt967 ∧ AsE as9 wf968 := ⟨has1007.1, has1007.2.1, has1007.2.2⟩
    have hz1018 : okA → VaQ pb B B964 Ag Ag970 pd m9 sn lo cs cs965 as9 as966 wt967 wf968 hd sl os t969 u971 (K.2.1 0 q) := h982
    have hz1019 : CaK (K.2.1 0 q) → cs965 + 2 ≤ cs + 2 * tlE g q := (fun z9 => absurd z9 (by rw [hkd]; unfold CaK; decide))
    have hO : OKP G h0 a (upd (upd (upd (upd (upd (upd (upd F 2 (nI sz)) 5 (nI cs965)) 7 (nI hd)) 12 (nI vr)) 13 as966) 14 wt967) 15 wf968) (updR (updR R 2 (.ref pq)) 3 (.ref mq)) Z B964 J K963 w := hO.to rfl
    refine W.widen (k := 1) (n := 6) (by omega) (by omega) ?_
    have hzz1 : H.size ≤ s.heap.size + (0) := (by have z : 0 ≤ 0 := (by omega); omega)
    have hzz2 : hSl H ≤ hSl s.heap + (0) := (by have z : 0 ≤ 0 := (by omega); omega)
    exact W.iret (v := (nI t969)) hx hb hr (fun t99 ht99 hW99 => ⟨⟨_, (w, (K963, B964, cs965, as966, wt967, wf968, t969, Ag970, u971)), rfl, ⟨rfl, hz1008, hz1009, hz1010, hz1011, hz1012, hz1013, hz1014, hz1015, hz1016, hz1017, hz1018, hz1019, hO⟩, by rw [ht99]; exact hP, hD, by rw [ht99]; exact hzz1, by rw [ht99]; exact hzz2⟩, hS.F ht99⟩) hS.2.2 dX0_value_132
  by_cases h1020 : kd = 17
  · subst h1020
    refine lv_tableIn (tgt := 175) (off := 171) hx hb dX0_value_4 (by decide) (by decide) (by decide) (by decide) ?_
    have hnd := hwp.1 q hqT hqL.1
    obtain ⟨q1, hc0, ht0, hw0⟩ := NdO.ch hnd (f := 0) (by decide) ((hnd.1.2.1 (by rw [hkd]; decide)).1)
    have hv0 : 1 ≤ g 0 q1 ∧ g 0 q1 + 1 ≤ n := ⟨hw0.1, (by have z := hw0.2; omega)⟩
    obtain ⟨q2, hc1, ht1, hw1⟩ := NdO.ch hnd (f := 1) (by decide) ((hnd.1.2.1 (by rw [hkd]; decide)).2)
    have hv1 : 1 ≤ g 0 q2 ∧ g 0 q2 + 1 ≤ n := ⟨hw1.1, (by have z := hw1.2; omega)⟩
    obtain ⟨hlf0, hlf1, htl, hnd0, hnd1, hin0, hin1⟩ := hek9.2.1 (by rw [hkd]; decide) q1 q2 hc0 hc1
    have hlf8 : 1 ≤ ndE g q1 := hlf0.2
    have hlf9 : 1 ≤ ndE g q2 := hlf1.2
    refine lv_aload_n hx hb dX0_value_175 rfl (lv_at hl 0 rfl) ?_
    refine lv_aload_n hx hb dX0_value_176 rfl (lv_at hl 1 rfl) ?_
    refine lv_aload_n hx hb dX0_value_177 rfl (lv_at hl 0 rfl) ?_
    refine c_get (v := .ref (a 1)) (C := RX0) (Tc := TX0) (N := 13) (ci := 0) hx hb hq pin_wsX00 hown hE hP hO 24 (sg_24 G h0 a _ _ _ _ _) rfl 0 (by decide) (hq _ pw_4) (fun _ h9 => h9) rfl dX0_value_178 ?_
    refine lv_aload_n hx hb dX0_value_181 rfl (lv_at hl 1 rfl) ?_
    refine p_get (v := .int tk) (C := RX7) (Tc := TX7) (N := 11) (ci := 13) hx hb hq pin_wsX70 hown hE hP hO (by rw [hqT]; decide) (rep_1 hqT) rfl 1 (by decide) (hq _ pw_81) (fun _ h9 => h9) (congrArg (fun z => some (Value.int z)) htk) dX0_value_182 ?_
    have hO : OKW G h0 a (upd (upd (upd (upd (upd (upd F 2 (nI sz)) 5 (nI cs)) 7 (nI hd)) 12 (nI vr)) 13 as9) 2 (nI sz)) (updR (updR R 2 (.ref pq)) 3 (.ref mq)) Z B J K.1 (fun q99 x99 => x99 = rep G a K q99) w := hO.to rfl
    obtain ⟨_, qr1024, hqr1025⟩ := hO.2.1 2 _ (sg_2 G h0 a _ _ _ _ _)
    refine pc_V0 (G := G) (As := [.int tk]) (rest := [.ref q, .ref (a 4)]) hx hb hml hown hq hE hX pX0_al hP hD hS hA hl.1 (Y_kindAt l G h0 a (upd (upd (upd (upd (upd F 2 (nI sz)) 5 (nI cs)) 7 (nI hd)) 12 (nI vr)) 13 as9) (updR (updR R 2 (.ref pq)) 3 (.ref mq)) Z B J K.1 (fun q99 x99 => x99 = rep G a K q99) w tk sz (by omega) hO) (gV pw_192 pw_193 pw_194 pw_59 pw_126) hV_X10_kindAt qr1024 7 hqr1025 rfl rfl rfl (Nat.le_of_ble_eq_true rfl) dX0_value_185 ⟨(by show 0 + 0 ≤ 1; omega), (by show 0 + 0 ≤ 6; omega)⟩ ⟨(by show 2 + 1 ≤ (5 * n + 34); omega), (by show 8 + (2 + 11) + 60 ≤ (200 * n + 600); omega)⟩ (fun v1023 u1021 H locs hw1022 hP hD hS => ?_)
    obtain ⟨w, _⟩ := u1021
    obtain ⟨hw1022, hO⟩ := hw1022
    obtain rfl : v1023 = some (.int (tkN ((B 7)) sz 67 tk)) := hw1022
    have hO : OKP G h0 a (upd (upd (upd (upd (upd F 2 (nI sz)) 5 (nI cs)) 7 (nI hd)) 12 (nI vr)) 13 as9) (updR (updR R 2 (.ref pq)) 3 (.ref mq)) Z B J K w := hO.to rfl
    refine W.widen (k := 0) (n := 0) (Nat.le_of_ble_eq_true rfl) (Nat.le_of_ble_eq_true rfl) ?_
    refine W.eq (g2 := F0 m 188 ls [.int (tkN ((B 7)) sz 67 tk), .ref q, .ref (a 4)]) rfl ?_
    have hO : OKP G h0 a (upd (upd (upd (upd (upd (upd (upd (upd (upd (upd F 2 (nI sz)) 5 (nI cs)) 7 (nI hd)) 12 (nI vr)) 13 as9) 2 (nI sz)) 5 (nI cs)) 7 (nI hd)) 12 (nI vr)) 13 as9) (updR (updR (updR (updR R 2 (.ref pq)) 3 (.ref mq)) 2 (.ref pq)) 3 (.ref mq)) Z B J K w := hO.to rfl
    obtain ⟨_, qr1029, hqr1030⟩ := hO.2.1 24 _ (sg_24 G h0 a _ _ _ _ _)
    refine pn_V0 (G := G) (As := [.ref q, .int (tkN ((B 7)) sz 67 tk)]) (rest := []) hx hb hml hown hq hE hX pX0_al hP hD hS hA hl.1 (Y_signE l G h0 a (upd (upd (upd (upd (upd F 2 (nI sz)) 5 (nI cs)) 7 (nI hd)) 12 (nI vr)) 13 as9) (updR (updR R 2 (.ref pq)) 3 (.ref mq)) Z B J K w pq dr ml nd nm cp it s9 q mq cs vr sz n q1 q2 (tkN ((B 7)) sz 67 tk) g rk pb Ag pd sl os m9 sn lo hd c0 as9 okA (by omega) (BdE.wp BdE.rfl hwp) (BdE.pt BdE.rfl hwp hps) (BdE.rko BdE.rfl hrk) (by omega) (by omega) hng hmq hqT hqL (EkA.be BdE.rfl (BeR.rfl 7 (by decide)) (BeR.rfl 11 (by decide)) hek) (OwC.be BdE.rfl hmq hdr0 hcO) (NaB.be BdE.rfl BeF.rfl hwp hps.2.1 hdr0 (BeR.rfl 11 (by decide)) hna) (EnV.of (BeR.rfl 26 (by decide)) (BeR.rfl 27 (by decide)) hen) (fun z => (hev0 z).1) (by omega) hop hlf hc0 ht0 hv0 hlf0 hin0 hc1 ht1 hv1 hlf1 hin1 htl hnd0 hnd1 (by rw [← htk]; exact hek9.2.2.2.2.2.1 hkd) ihv hO hl0) (gV pw_240 pw_241 pw_242 pw_63 pw_217) hV_X0_sign qr1029 0 hqr1030 rfl rfl rfl (Nat.le_of_ble_eq_true rfl) dX0_value_188 ⟨(by show 0 + 1 ≤ 1; omega), (by show 0 + 6 ≤ 6; omega)⟩ ⟨(by show (5 * n + 33) + 1 ≤ (5 * n + 34); omega), (by show 8 + (5 + 11) + (200 * n + 560) ≤ (200 * n + 600); omega)⟩ (fun v1028 u1026 H locs hw1027 hP hD hS => ?_) (fun ux ce9 q9 H9 locs9 hux hP9 hD9 hS9 hce hcv hcl => pb_out ux (ThQ.up (Thx.same (Thx.same (Thx.same (Thx.same (Thx.same Thx.rfl rfl) rfl) rfl) rfl) rfl) (show RhX (updR (updR R 2 (.ref pq)) 3 (.ref mq)) (updR (updR (updR (updR R 2 (.ref pq)) 3 (.ref mq)) 2 (.ref pq)) 3 (.ref mq)) from fun k9 hk9 => by unfold updR; simp only [show ¬ k9 = 1 by omega, show ¬ k9 = 2 by omega, show ¬ k9 = 3 by omega, show ¬ k9 = 4 by omega, if_false]) hux) hnt hlocks hce hcv hcl hP9 hD9 hS9 (by show 0 + 1 ≤ 1; omega) (by show 0 + 6 ≤ 6; omega))
    obtain ⟨w, K1031, B1032, cs1033, as1034, wt1035, wf1036, t1037, Ag1038⟩ := u1026
    obtain ⟨hw1027, h1039, h1040, h1041, h1042, h1043, h1044, h1045, h1046, h1047, h1048, h1049, hO⟩ := hw1027
    have h1039 : SmW B B1032 cs := h1039
    have h1040 : BdE K K1031 := h1040
    have h1041 : BeF K K1031 := h1041
    have h1042 : BeL K K1031 none := h1042
    have h1043 : BeI K K1031 g q := h1043
    have h1044 : Bth B B1032 := h1044
    have h1045 : BeR B B1032 := h1045
    have h1046 : t1037 < 128 := h1046
    have h1047 : cs ≤ cs1033 ∧ cs1033 + 0 ≤ cs + 2 * tlE g q := h1047
    have h1048 : AsE as9 as1034 := h1048
    have h1049 : okA → PlQ pb B B1032 Ag Ag1038 pd m9 sn lo cs cs1033 as9 as1034 hd sl os t1037 (K.2.1 0 q) := h1049
    obtain rfl : v1028 = some (.int (nI t1037)) := hw1027
    have hf1050 : K1031.1 pq = 7 := (BdE.T h1040 hp1 (by decide))
    have hf1051 : K1031.2.2.1 18 pq = some (a 1) := (BdE.C h1040 (by rw [hp1]; decide) 18).trans hp2
    have hf1052 : K1031.2.2.1 14 pq = some dr := (BdE.C h1040 (by rw [hp1]; decide) 14).trans hp3
    have hf1053 : K1031.1 dr = 8 := (BdE.T h1040 hp4 (by decide))
    have hf1054 : K1031.2.2.1 15 pq = some ml := (BdE.C h1040 (by rw [hp1]; decide) 15).trans hp5
    have hf1055 : K1031.1 ml = 5 := (BdE.T h1040 hp6 (by decide))
    have hf1056 : K1031.2.1 24 pq = (nI nd) := (BdE.I h1040 (by rw [hp1]; decide) (by decide) (by decide)).trans hp8
    have hf1057 : K1031.1 q = 1 := (BdE.T h1040 hqT (by decide))
    have hf1058 : K1031.1 mq = 3 := (BdE.T h1040 hmq (by decide))
    have hf1059 : K1031.2.1 0 q = 17 := (BdE.I h1040 (by rw [hqT]; decide) (by decide) (by decide)).trans hkd
    have hf1060 : K1031.2.1 1 q = tk := (BdE.I h1040 (by rw [hqT]; decide) (by decide) (by decide)).trans htk
    have hf1061 : K1031.2.2.1 0 q = some q1 := (BdE.C h1040 (by rw [hqT]; decide) 0).trans hc0
    have hf1062 : K1031.1 q1 = 1 := (BdE.T h1040 ht0 (by decide))
    have hf1063 : K1031.2.2.1 1 q = some q2 := (BdE.C h1040 (by rw [hqT]; decide) 1).trans hc1
    have hf1064 : K1031.1 q2 = 1 := (BdE.T h1040 ht1 (by decide))
    have hO : OKP G h0 a (upd (upd (upd (upd (upd (upd (upd F 2 (nI sz)) 5 (nI cs1033)) 7 (nI hd)) 12 (nI vr)) 13 as1034) 14 wt1035) 15 wf1036) (updR (updR R 2 (.ref pq)) 3 (.ref mq)) Z B1032 J K1031 w := hO.to rfl
    refine W.widen (k := 0) (n := 0) (by show 0 + 0 ≤ 0; omega) (by show 0 + 0 ≤ 0; omega) ?_
    refine W.eq (g2 := F0 m 191 ls [.int (nI t1037)]) rfl ?_
    have hbe1065 := BdE.trans BdE.rfl h1040
    have hbb1066 : Bth B B1032 := Bth.trans (show Thx (upd (upd (upd (upd (upd F 2 (nI sz)) 5 (nI cs)) 7 (nI hd)) 12 (nI vr)) 13 as9) (upd (upd (upd (upd (upd F 2 (nI sz)) 5 (nI cs)) 7 (nI hd)) 12 (nI vr)) 13 as9) B B from Thx.rfl).2 h1044
    have hng1067 : Nng (B1032 18) := h1044.2 hng
    have hsw1068 : ∀ x9 : Nat, x9 < cs → (B1032 16) x9 = B 16 x9 := fun x9 hx9 => ((h1039 x9 (by omega)).1).trans ((fun _ _ => rfl) x9 hx9)
    have hsw1069 : ∀ x9 : Nat, x9 < cs → (B1032 17) x9 = B 17 x9 := fun x9 hx9 => ((h1039 x9 (by omega)).2.1).trans ((fun _ _ => rfl) x9 hx9)
    have hsw1070 : ∀ x9 : Nat, x9 < cs → (B1032 18) x9 = B 18 x9 := fun x9 hx9 => ((h1039 x9 (by omega)).2.2.1).trans ((fun _ _ => rfl) x9 hx9)
    have hsw1071 : ∀ x9 : Nat, x9 < cs → (B1032 19) x9 = B 19 x9 := fun x9 hx9 => ((h1039 x9 (by omega)).2.2.2).trans ((fun _ _ => rfl) x9 hx9)
    have hbf1072 := BeF.trans BeF.rfl h1041 BdE.rfl
    have hbl1074 := BeL.trans BeL.rfl h1042 BdE.rfl
    have hbi1075 := BeI.trans BeI.rfl h1043 BdE.rfl InE.rfl
    have hbr1073 : BeR B B1032 := BeR.trans BeR.rfl h1045
    have has1076 : AsE as9 as1034 := AsE.trans AsE.rfl h1048
    refine lv_istore_n (lv' := [(2, .int (nI t1037)), (0, .ref (a 4)), (1, .ref q)]) hx hb dX0_value_191 rfl hl (by decide) rfl (fun ls hl => ?_)
    refine lv_goto (tgt := 298) hx hb dX0_value_192 (by decide) ?_
    refine lv_aload_n hx hb dX0_value_298 rfl (lv_at hl 1 rfl) ?_
    refine lv_aload_n hx hb dX0_value_299 rfl (lv_at hl 1 rfl) ?_
    refine c_get (v := .int as1034) (C := RX0) (Tc := TX0) (N := 13) (ci := 0) hx hb hq pin_wsX00 hown hE hP hO 24 (sg_24 G h0 a _ _ _ _ _) rfl 8 (by decide) (hq _ pw_55) (fun _ h9 => h9) rfl dX0_value_300 ?_
    refine c_put (v := .int as1034) (ty := .int) (C := RX0) (Tc := TX0) (N := 13) (ci := 0) hx hb hq pin_wsX00 tyX0 tyX0_ok nmX0 hown hE hP hD hS hO 24 (sg_24 G h0 a _ _ _ _ _) rfl 9 (by decide) (hq _ pw_156) (fun _ h9 => h9) rfl (by decide +kernel) rfl rfl (Nat.le_of_ble_eq_true rfl) (sf_14 G h0 a _ _ _ _ _ as1034) dX0_value_303 (fun H locs w hP hD hS hO => ?_)
    refine lv_aload_n hx hb dX0_value_306 rfl (lv_at hl 1 rfl) ?_
    refine lv_aload_n hx hb dX0_value_307 rfl (lv_at hl 1 rfl) ?_
    refine c_get (v := .int as1034) (C := RX0) (Tc := TX0) (N := 13) (ci := 0) hx hb hq pin_wsX00 hown hE hP hO 24 (sg_24 G h0 a _ _ _ _ _) rfl 8 (by decide) (hq _ pw_55) (fun _ h9 => h9) rfl dX0_value_308 ?_
    refine c_put (v := .int as1034) (ty := .int) (C := RX0) (Tc := TX0) (N := 13) (ci := 0) hx hb hq pin_wsX00 tyX0 tyX0_ok nmX0 hown hE hP hD hS hO 24 (sg_24 G h0 a _ _ _ _ _) rfl 10 (by decide) (hq _ pw_157) (fun _ h9 => h9) rfl (by decide +kernel) rfl rfl (Nat.le_of_ble_eq_true rfl) (sf_15 G h0 a _ _ _ _ _ as1034) dX0_value_311 (fun H locs w hP hD hS hO => ?_)
    refine lv_iload_n hx hb dX0_value_314 rfl (lv_at hl 0 rfl) ?_
    refine W_size (fun hz1 hz2 => ?_)
    refine vx_ret ?_
    have hz1077 : SmW B B1032 cs := (fun x9 hx9 => ⟨hsw1068 x9 hx9, hsw1069 x9 hx9, hsw1070 x9 hx9, hsw1071 x9 hx9⟩)
    have hz1078 : BdE K K1031 := hbe1065
    have hz1079 : BeF K K1031 := hbf1072
    have hz1080 : BeL K K1031 none := hbl1074
    have hz1081 : BeI K K1031 g q := hbi1075
    have hz1082 : Bth B B1032 := (show Thx (upd (upd (upd (upd (upd F 2 (nI sz)) 5 (nI cs)) 7 (nI hd)) 12 (nI vr)) 13 as9) (upd (upd (upd (upd (upd (upd (upd (upd (upd F 2 (nI sz)) 5 (nI cs)) 7 (nI hd)) 12 (nI vr)) 13 as9) 5 (nI cs1033)) 13 as1034) 14 as1034) 15 as1034) B B1032 from (Thx.f (Thx.f (Thx.f (Thx.f (Bth.thx hbb1066) (by omega)) (by omega)) (by omega)) (by omega))).2
    have hz1083 : BeR B B1032 := hbr1073
    have hz1084 : t1037 < 128 := (by omega)
    have hz1085 : cs ≤ cs1033 ∧ cs1033 + 0 ≤ cs + 2 * tlE g q := (by omega)
    have hz1086 : AsE as9 as1034 ∧ AsE as9 as1034 ∧ AsE as9 as1034 := ⟨has1076, has1076, has1076⟩
    have hz1087 : okA → VaQ pb B B1032 Ag Ag1038 pd m9 sn lo cs cs1033 as9 as1034 as1034 as1034 hd sl os t1037 t1037 (K.2.1 0 q) := (fun z => PlQ.va (h1049 z) h1046)
    have hz1088 : CaK (K.2.1 0 q) → cs1033 + 2 ≤ cs + 2 * tlE g q := (fun z9 => absurd z9 (by rw [hkd]; unfold CaK; decide))
    have hO : OKP G h0 a (upd (upd (upd (upd (upd (upd (upd F 2 (nI sz)) 5 (nI cs1033)) 7 (nI hd)) 12 (nI vr)) 13 as1034) 14 as1034) 15 as1034) (updR (updR R 2 (.ref pq)) 3 (.ref mq)) Z B1032 J K1031 w := hO.to rfl
    refine W.widen (k := 1) (n := 6) (by omega) (by omega) ?_
    have hzz1 : H.size ≤ s.heap.size + (0) := (by have z : 0 ≤ 0 := (by omega); omega)
    have hzz2 : hSl H ≤ hSl s.heap + (0) := (by have z : 0 ≤ 0 := (by omega); omega)
    exact W.iret (v := (nI t1037)) hx hb hr (fun t99 ht99 hW99 => ⟨⟨_, (w, (K1031, B1032, cs1033, as1034, as1034, as1034, t1037, Ag1038, t1037)), rfl, ⟨rfl, hz1077, hz1078, hz1079, hz1080, hz1081, hz1082, hz1083, hz1084, hz1085, hz1086, hz1087, hz1088, hO⟩, by rw [ht99]; exact hP, hD, by rw [ht99]; exact hzz1, by rw [ht99]; exact hzz2⟩, hS.F ht99⟩) hS.2.2 dX0_value_315
  by_cases h1089 : kd = 18
  · subst h1089
    refine lv_tableIn (tgt := 133) (off := 129) hx hb dX0_value_4 (by decide) (by decide) (by decide) (by decide) ?_
    have hnd := hwp.1 q hqT hqL.1
    obtain ⟨q1, hc0, ht0, hw0⟩ := NdO.ch hnd (f := 0) (by decide) ((hnd.1.2.1 (by rw [hkd]; decide)).1)
    have hv0 : 1 ≤ g 0 q1 ∧ g 0 q1 + 1 ≤ n := ⟨hw0.1, (by have z := hw0.2; omega)⟩
    obtain ⟨q2, hc1, ht1, hw1⟩ := NdO.ch hnd (f := 1) (by decide) ((hnd.1.2.1 (by rw [hkd]; decide)).2)
    have hv1 : 1 ≤ g 0 q2 ∧ g 0 q2 + 1 ≤ n := ⟨hw1.1, (by have z := hw1.2; omega)⟩
    obtain ⟨hlf0, hlf1, htl, hnd0, hnd1, hin0, hin1⟩ := hek9.2.1 (by rw [hkd]; decide) q1 q2 hc0 hc1
    have hlf8 : 1 ≤ ndE g q1 := hlf0.2
    have hlf9 : 1 ≤ ndE g q2 := hlf1.2
    refine lv_aload_n hx hb dX0_value_133 rfl (lv_at hl 0 rfl) ?_
    refine lv_aload_n hx hb dX0_value_134 rfl (lv_at hl 1 rfl) ?_
    refine lv_aload_n hx hb dX0_value_135 rfl (lv_at hl 0 rfl) ?_
    refine c_get (v := .ref (a 1)) (C := RX0) (Tc := TX0) (N := 13) (ci := 0) hx hb hq pin_wsX00 hown hE hP hO 24 (sg_24 G h0 a _ _ _ _ _) rfl 0 (by decide) (hq _ pw_4) (fun _ h9 => h9) rfl dX0_value_136 ?_
    refine lv_aload_n hx hb dX0_value_139 rfl (lv_at hl 1 rfl) ?_
    refine p_get (v := .int tk) (C := RX7) (Tc := TX7) (N := 11) (ci := 13) hx hb hq pin_wsX70 hown hE hP hO (by rw [hqT]; decide) (rep_1 hqT) rfl 1 (by decide) (hq _ pw_81) (fun _ h9 => h9) (congrArg (fun z => some (Value.int z)) htk) dX0_value_140 ?_
    have hO : OKW G h0 a (upd (upd (upd (upd (upd (upd F 2 (nI sz)) 5 (nI cs)) 7 (nI hd)) 12 (nI vr)) 13 as9) 2 (nI sz)) (updR (updR R 2 (.ref pq)) 3 (.ref mq)) Z B J K.1 (fun q99 x99 => x99 = rep G a K q99) w := hO.to rfl
    obtain ⟨_, qr1093, hqr1094⟩ := hO.2.1 2 _ (sg_2 G h0 a _ _ _ _ _)
    refine pc_V0 (G := G) (As := [.int tk]) (rest := [.ref q, .ref (a 4)]) hx hb hml hown hq hE hX pX0_al hP hD hS hA hl.1 (Y_kindAt l G h0 a (upd (upd (upd (upd (upd F 2 (nI sz)) 5 (nI cs)) 7 (nI hd)) 12 (nI vr)) 13 as9) (updR (updR R 2 (.ref pq)) 3 (.ref mq)) Z B J K.1 (fun q99 x99 => x99 = rep G a K q99) w tk sz (by omega) hO) (gV pw_192 pw_193 pw_194 pw_59 pw_126) hV_X10_kindAt qr1093 7 hqr1094 rfl rfl rfl (Nat.le_of_ble_eq_true rfl) dX0_value_143 ⟨(by show 0 + 0 ≤ 1; omega), (by show 0 + 0 ≤ 6; omega)⟩ ⟨(by show 2 + 1 ≤ (5 * n + 34); omega), (by show 8 + (2 + 11) + 60 ≤ (200 * n + 600); omega)⟩ (fun v1092 u1090 H locs hw1091 hP hD hS => ?_)
    obtain ⟨w, _⟩ := u1090
    obtain ⟨hw1091, hO⟩ := hw1091
    obtain rfl : v1092 = some (.int (tkN ((B 7)) sz 67 tk)) := hw1091
    have hO : OKP G h0 a (upd (upd (upd (upd (upd F 2 (nI sz)) 5 (nI cs)) 7 (nI hd)) 12 (nI vr)) 13 as9) (updR (updR R 2 (.ref pq)) 3 (.ref mq)) Z B J K w := hO.to rfl
    refine W.widen (k := 0) (n := 0) (Nat.le_of_ble_eq_true rfl) (Nat.le_of_ble_eq_true rfl) ?_
    refine W.eq (g2 := F0 m 146 ls [.int (tkN ((B 7)) sz 67 tk), .ref q, .ref (a 4)]) rfl ?_
    refine lv_bipush (v := 60) hx hb dX0_value_146 (by decide) ?_
    refine lv_icmp_ne (tgt := 155) hx hb dX0_value_148 (by decide) (fun c1095 => ?_) (fun c1095 => ?_)
    · refine lv_iconst (v := 0) hx hb dX0_value_155 (by decide) ?_
      have hO : OKP G h0 a (upd (upd (upd (upd (upd (upd (upd (upd (upd (upd F 2 (nI sz)) 5 (nI cs)) 7 (nI hd)) 12 (nI vr)) 13 as9) 2 (nI sz)) 5 (nI cs)) 7 (nI hd)) 12 (nI vr)) 13 as9) (updR (updR (updR (updR R 2 (.ref pq)) 3 (.ref mq)) 2 (.ref pq)) 3 (.ref mq)) Z B J K w := hO.to rfl
      obtain ⟨_, qr1099, hqr1100⟩ := hO.2.1 24 _ (sg_24 G h0 a _ _ _ _ _)
      refine pn_V0 (G := G) (As := [.ref q, .int (nI 0)]) (rest := []) hx hb hml hown hq hE hX pX0_al hP hD hS hA hl.1 (Y_shortened l G h0 a (upd (upd (upd (upd (upd F 2 (nI sz)) 5 (nI cs)) 7 (nI hd)) 12 (nI vr)) 13 as9) (updR (updR R 2 (.ref pq)) 3 (.ref mq)) Z B J K w pq dr ml nd nm cp it s9 q mq cs vr sz n q1 q2 0 g rk pb Ag pd sl os m9 sn lo hd c0 as9 okA (by omega) (BdE.wp BdE.rfl hwp) (BdE.pt BdE.rfl hwp hps) (BdE.rko BdE.rfl hrk) (by omega) (by omega) hng hmq hqT hqL (EkA.be BdE.rfl (BeR.rfl 7 (by decide)) (BeR.rfl 11 (by decide)) hek) (OwC.be BdE.rfl hmq hdr0 hcO) (NaB.be BdE.rfl BeF.rfl hwp hps.2.1 hdr0 (BeR.rfl 11 (by decide)) hna) (EnV.of (BeR.rfl 26 (by decide)) (BeR.rfl 27 (by decide)) hen) (fun z => (hev0 z).1) (by omega) hop hlf hc0 ht0 hv0 hlf0 hin0 hc1 ht1 hv1 hlf1 hin1 htl hnd0 hnd1 (by omega) ihv hO hl0) (gV pw_231 pw_232 pw_233 pw_63 pw_216) hV_X0_shortened qr1099 0 hqr1100 rfl rfl rfl (Nat.le_of_ble_eq_true rfl) dX0_value_156 ⟨(by show 0 + 1 ≤ 1; omega), (by show 0 + 6 ≤ 6; omega)⟩ ⟨(by show (5 * n + 33) + 1 ≤ (5 * n + 34); omega), (by show 8 + (6 + 11) + (200 * n + 560) ≤ (200 * n + 600); omega)⟩ (fun v1098 u1096 H locs hw1097 hP hD hS => ?_) (fun ux ce9 q9 H9 locs9 hux hP9 hD9 hS9 hce hcv hcl => pb_out ux (ThQ.up (Thx.same (Thx.same (Thx.same (Thx.same (Thx.same Thx.rfl rfl) rfl) rfl) rfl) rfl) (show RhX (updR (updR R 2 (.ref pq)) 3 (.ref mq)) (updR (updR (updR (updR R 2 (.ref pq)) 3 (.ref mq)) 2 (.ref pq)) 3 (.ref mq)) from fun k9 hk9 => by unfold updR; simp only [show ¬ k9 = 1 by omega, show ¬ k9 = 2 by omega, show ¬ k9 = 3 by omega, show ¬ k9 = 4 by omega, if_false]) hux) hnt hlocks hce hcv hcl hP9 hD9 hS9 (by show 0 + 1 ≤ 1; omega) (by show 0 + 6 ≤ 6; omega))
      obtain ⟨w, K1101, B1102, cs1103, as1104, wt1105, wf1106, t1107, Ag1108, u1109⟩ := u1096
      obtain ⟨hw1097, h1110, h1111, h1112, h1113, h1114, h1115, h1116, h1117, h1118, h1119, h1120, hO⟩ := hw1097
      have h1110 : SmW B B1102 cs := h1110
      have h1111 : BdE K K1101 := h1111
      have h1112 : BeF K K1101 := h1112
      have h1113 : BeL K K1101 none := h1113
      have h1114 : BeI K K1101 g q := h1114
      have h1115 : Bth B B1102 := h1115
      have h1116 : BeR B B1102 := h1116
      have h1117 : t1107 < 128 := h1117
      have h1118 : cs ≤ cs1103 ∧ cs1103 + 0 ≤ cs + 2 * tlE g q := h1118
      have h1119 : AsE as9 as1104 ∧ AsE as9 wt1105 ∧ AsE as9 wf1106 := h1119
      have h1120 : okA → VaQ pb B B1102 Ag Ag1108 pd m9 sn lo cs cs1103 as9 as1104 wt1105 wf1106 hd sl os t1107 u1109 (K.2.1 0 q) := h1120
      obtain rfl : v1098 = some (.int (nI t1107)) := hw1097
      have hf1121 : K1101.1 pq = 7 := (BdE.T h1111 hp1 (by decide))
      have hf1122 : K1101.2.2.1 18 pq = some (a 1) := (BdE.C h1111 (by rw [hp1]; decide) 18).trans hp2
      have hf1123 : K1101.2.2.1 14 pq = some dr := (BdE.C h1111 (by rw [hp1]; decide) 14).trans hp3
      have hf1124 : K1101.1 dr = 8 := (BdE.T h1111 hp4 (by decide))
      have hf1125 : K1101.2.2.1 15 pq = some ml := (BdE.C h1111 (by rw [hp1]; decide) 15).trans hp5
      have hf1126 : K1101.1 ml = 5 := (BdE.T h1111 hp6 (by decide))
      have hf1127 : K1101.2.1 24 pq = (nI nd) := (BdE.I h1111 (by rw [hp1]; decide) (by decide) (by decide)).trans hp8
      have hf1128 : K1101.1 q = 1 := (BdE.T h1111 hqT (by decide))
      have hf1129 : K1101.1 mq = 3 := (BdE.T h1111 hmq (by decide))
      have hf1130 : K1101.2.1 0 q = 18 := (BdE.I h1111 (by rw [hqT]; decide) (by decide) (by decide)).trans hkd
      have hf1131 : K1101.2.1 1 q = tk := (BdE.I h1111 (by rw [hqT]; decide) (by decide) (by decide)).trans htk
      have hf1132 : K1101.2.2.1 0 q = some q1 := (BdE.C h1111 (by rw [hqT]; decide) 0).trans hc0
      have hf1133 : K1101.1 q1 = 1 := (BdE.T h1111 ht0 (by decide))
      have hf1134 : K1101.2.2.1 1 q = some q2 := (BdE.C h1111 (by rw [hqT]; decide) 1).trans hc1
      have hf1135 : K1101.1 q2 = 1 := (BdE.T h1111 ht1 (by decide))
      have hO : OKP G h0 a (upd (upd (upd (upd (upd (upd (upd F 2 (nI sz)) 5 (nI cs1103)) 7 (nI hd)) 12 (nI vr)) 13 as1104) 14 wt1105) 15 wf1106) (updR (updR R 2 (.ref pq)) 3 (.ref mq)) Z B1102 J K1101 w := hO.to rfl
      refine W.widen (k := 0) (n := 0) (by show 0 + 0 ≤ 0; omega) (by show 0 + 0 ≤ 0; omega) ?_
      refine W.eq (g2 := F0 m 159 ls [.int (nI t1107)]) rfl ?_
      have hbe1136 := BdE.trans BdE.rfl h1111
      have hbb1137 : Bth B B1102 := Bth.trans (show Thx (upd (upd (upd (upd (upd F 2 (nI sz)) 5 (nI cs)) 7 (nI hd)) 12 (nI vr)) 13 as9) (upd (upd (upd (upd (upd F 2 (nI sz)) 5 (nI cs)) 7 (nI hd)) 12 (nI vr)) 13 as9) B B from Thx.rfl).2 h1115
      have hng1138 : Nng (B1102 18) := h1115.2 hng
      have hsw1139 : ∀ x9 : Nat, x9 < cs → (B1102 16) x9 = B 16 x9 := fun x9 hx9 => ((h1110 x9 (by omega)).1).trans ((fun _ _ => rfl) x9 hx9)
      have hsw1140 : ∀ x9 : Nat, x9 < cs → (B1102 17) x9 = B 17 x9 := fun x9 hx9 => ((h1110 x9 (by omega)).2.1).trans ((fun _ _ => rfl) x9 hx9)
      have hsw1141 : ∀ x9 : Nat, x9 < cs → (B1102 18) x9 = B 18 x9 := fun x9 hx9 => ((h1110 x9 (by omega)).2.2.1).trans ((fun _ _ => rfl) x9 hx9)
      have hsw1142 : ∀ x9 : Nat, x9 < cs → (B1102 19) x9 = B 19 x9 := fun x9 hx9 => ((h1110 x9 (by omega)).2.2.2).trans ((fun _ _ => rfl) x9 hx9)
      have hbf1143 := BeF.trans BeF.rfl h1112 BdE.rfl
      have hbl1145 := BeL.trans BeL.rfl h1113 BdE.rfl
      have hbi1146 := BeI.trans BeI.rfl h1114 BdE.rfl InE.rfl
      have hbr1144 : BeR B B1102 := BeR.trans BeR.rfl h1116
      have has1147 : AsE as9 as1104 ∧ AsE as9 wt1105 ∧ AsE as9 wf1106 := ⟨AsE.trans AsE.rfl h1119.1, AsE.trans AsE.rfl h1119.2.1, AsE.trans AsE.rfl h1119.2.2⟩
      refine W_size (fun hz1 hz2 => ?_)
      refine vx_ret ?_
      have hz1148 : SmW B B1102 cs := (fun x9 hx9 => ⟨hsw1139 x9 hx9, hsw1140 x9 hx9, hsw1141 x9 hx9, hsw1142 x9 hx9⟩)
      have hz1149 : BdE K K1101 := hbe1136
      have hz1150 : BeF K K1101 := hbf1143
      have hz1151 : BeL K K1101 none := hbl1145
      have hz1152 : BeI K K1101 g q := hbi1146
      have hz1153 : Bth B B1102 := (show Thx (upd (upd (upd (upd (upd F 2 (nI sz)) 5 (nI cs)) 7 (nI hd)) 12 (nI vr)) 13 as9) (upd (upd (upd (upd (upd (upd (upd (upd (upd F 2 (nI sz)) 5 (nI cs)) 7 (nI hd)) 12 (nI vr)) 13 as9) 5 (nI cs1103)) 13 as1104) 14 wt1105) 15 wf1106) B B1102 from (Thx.f (Thx.f (Thx.f (Thx.f (Bth.thx hbb1137) (by omega)) (by omega)) (by omega)) (by omega))).2
      have hz1154 : BeR B B1102 := hbr1144
      have hz1155 : t1107 < 128 := (by omega)
      have hz1156 : cs ≤ cs1103 ∧ cs1103 + 0 ≤ cs + 2 * tlE g q := (by omega)
      have hz1157 : AsE as9 as1104 ∧ AsE as9 wt1105 ∧ AsE as9 wf1106 := ⟨has1147.1, has1147.2.1, has1147.2.2⟩
      have hz1158 : okA → VaQ pb B B1102 Ag Ag1108 pd m9 sn lo cs cs1103 as9 as1104 wt1105 wf1106 hd sl os t1107 u1109 (K.2.1 0 q) := h1120
      have hz1159 : CaK (K.2.1 0 q) → cs1103 + 2 ≤ cs + 2 * tlE g q := (fun z9 => absurd z9 (by rw [hkd]; unfold CaK; decide))
      have hO : OKP G h0 a (upd (upd (upd (upd (upd (upd (upd F 2 (nI sz)) 5 (nI cs1103)) 7 (nI hd)) 12 (nI vr)) 13 as1104) 14 wt1105) 15 wf1106) (updR (updR R 2 (.ref pq)) 3 (.ref mq)) Z B1102 J K1101 w := hO.to rfl
      refine W.widen (k := 1) (n := 6) (by omega) (by omega) ?_
      have hzz1 : H.size ≤ s.heap.size + (0) := (by have z : 0 ≤ 0 := (by omega); omega)
      have hzz2 : hSl H ≤ hSl s.heap + (0) := (by have z : 0 ≤ 0 := (by omega); omega)
      exact W.iret (v := (nI t1107)) hx hb hr (fun t99 ht99 hW99 => ⟨⟨_, (w, (K1101, B1102, cs1103, as1104, wt1105, wf1106, t1107, Ag1108, u1109)), rfl, ⟨rfl, hz1148, hz1149, hz1150, hz1151, hz1152, hz1153, hz1154, hz1155, hz1156, hz1157, hz1158, hz1159, hO⟩, by rw [ht99]; exact hP, hD, by rw [ht99]; exact hzz1, by rw [ht99]; exact hzz2⟩, hS.F ht99⟩) hS.2.2 dX0_value_159
    · refine lv_iconst (v := 1) hx hb dX0_value_151 (by decide) ?_
      refine lv_goto (tgt := 156) hx hb dX0_value_152 (by decide) ?_
      have hO : OKP G h0 a (upd (upd (upd (upd (upd (upd (upd (upd (upd (upd F 2 (nI sz)) 5 (nI cs)) 7 (nI hd)) 12 (nI vr)) 13 as9) 2 (nI sz)) 5 (nI cs)) 7 (nI hd)) 12 (nI vr)) 13 as9) (updR (updR (updR (updR R 2 (.ref pq)) 3 (.ref mq)) 2 (.ref pq)) 3 (.ref mq)) Z B J K w := hO.to rfl
      obtain ⟨_, qr1163, hqr1164⟩ := hO.2.1 24 _ (sg_24 G h0 a _ _ _ _ _)
      refine pn_V0 (G := G) (As := [.ref q, .int (nI 1)]) (rest := []) hx hb hml hown hq hE hX pX0_al hP hD hS hA hl.1 (Y_shortened l G h0 a (upd (upd (upd (upd (upd F 2 (nI sz)) 5 (nI cs)) 7 (nI hd)) 12 (nI vr)) 13 as9) (updR (updR R 2 (.ref pq)) 3 (.ref mq)) Z B J K w pq dr ml nd nm cp it s9 q mq cs vr sz n q1 q2 1 g rk pb Ag pd sl os m9 sn lo hd c0 as9 okA (by omega) (BdE.wp BdE.rfl hwp) (BdE.pt BdE.rfl hwp hps) (BdE.rko BdE.rfl hrk) (by omega) (by omega) hng hmq hqT hqL (EkA.be BdE.rfl (BeR.rfl 7 (by decide)) (BeR.rfl 11 (by decide)) hek) (OwC.be BdE.rfl hmq hdr0 hcO) (NaB.be BdE.rfl BeF.rfl hwp hps.2.1 hdr0 (BeR.rfl 11 (by decide)) hna) (EnV.of (BeR.rfl 26 (by decide)) (BeR.rfl 27 (by decide)) hen) (fun z => (hev0 z).1) (by omega) hop hlf hc0 ht0 hv0 hlf0 hin0 hc1 ht1 hv1 hlf1 hin1 htl hnd0 hnd1 (by omega) ihv hO hl0) (gV pw_231 pw_232 pw_233 pw_63 pw_216) hV_X0_shortened qr1163 0 hqr1164 rfl rfl rfl (Nat.le_of_ble_eq_true rfl) dX0_value_156 ⟨(by show 0 + 1 ≤ 1; omega), (by show 0 + 6 ≤ 6; omega)⟩ ⟨(by show (5 * n + 33) + 1 ≤ (5 * n + 34); omega), (by show 8 + (6 + 11) + (200 * n + 560) ≤ (200 * n + 600); omega)⟩ (fun v1162 u1160 H locs hw1161 hP hD hS => ?_) (fun ux ce9 q9 H9 locs9 hux hP9 hD9 hS9 hce hcv hcl => pb_out ux (ThQ.up (Thx.same (Thx.same (Thx.same (Thx.same (Thx.same Thx.rfl rfl) rfl) rfl) rfl) rfl) (show RhX (updR (updR R 2 (.ref pq)) 3 (.ref mq)) (updR (updR (updR (updR R 2 (.ref pq)) 3 (.ref mq)) 2 (.ref pq)) 3 (.ref mq)) from fun k9 hk9 => by unfold updR; simp only [show ¬ k9 = 1 by omega, show ¬ k9 = 2 by omega, show ¬ k9 = 3 by omega, show ¬ k9 = 4 by omega, if_false]) hux) hnt hlocks hce hcv hcl hP9 hD9 hS9 (by show 0 + 1 ≤ 1; omega) (by show 0 + 6 ≤ 6; omega))
      obtain ⟨w, K1165, B1166, cs1167, as1168, wt1169, wf1170, t1171, Ag1172, u1173⟩ := u1160
      obtain ⟨hw1161, h1174, h1175, h1176, h1177, h1178, h1179, h1180, h1181, h1182, h1183, h1184, hO⟩ := hw1161
      have h1174 : SmW B B1166 cs := h1174
      have h1175 : BdE K K1165 := h1175
      have h1176 : BeF K K1165 := h1176
      have h1177 : BeL K K1165 none := h1177
      have h1178 : BeI K K1165 g q := h1178
      have h1179 : Bth B B1166 := h1179
      have h1180 : BeR B B1166 := h1180
      have h1181 : t1171 < 128 := h1181
      have h1182 : cs ≤ cs1167 ∧ cs1167 + 0 ≤ cs + 2 * tlE g q := h1182
      have h1183 : AsE as9 as1168 ∧ AsE as9 wt1169 ∧ AsE as9 wf1170 := h1183
      have h1184 : okA → VaQ pb B B1166 Ag Ag1172 pd m9 sn lo cs cs1167 as9 as1168 wt1169 wf1170 hd sl os t1171 u1173 (K.2.1 0 q) := h1184
      obtain rfl : v1162 = some (.int (nI t1171)) := hw1161
      have hf1185 : K1165.1 pq = 7 := (BdE.T h1175 hp1 (by decide))
      have hf1186 : K1165.2.2.1 18 pq = some (a 1) := (BdE.C h1175 (by rw [hp1]; decide) 18).trans hp2
      have hf1187 : K1165.2.2.1 14 pq = some dr := (BdE.C h1175 (by rw [hp1]; decide) 14).trans hp3
      have hf1188 : K1165.1 dr = 8 := (BdE.T h1175 hp4 (by decide))
      have hf1189 : K1165.2.2.1 15 pq = some ml := (BdE.C h1175 (by rw [hp1]; decide) 15).trans hp5
      have hf1190 : K1165.1 ml = 5 := (BdE.T h1175 hp6 (by decide))
      have hf1191 : K1165.2.1 24 pq = (nI nd) := (BdE.I h1175 (by rw [hp1]; decide) (by decide) (by decide)).trans hp8
      have hf1192 : K1165.1 q = 1 := (BdE.T h1175 hqT (by decide))
      have hf1193 : K1165.1 mq = 3 := (BdE.T h1175 hmq (by decide))
      have hf1194 : K1165.2.1 0 q = 18 := (BdE.I h1175 (by rw [hqT]; decide) (by decide) (by decide)).trans hkd
      have hf1195 : K1165.2.1 1 q = tk := (BdE.I h1175 (by rw [hqT]; decide) (by decide) (by decide)).trans htk
      have hf1196 : K1165.2.2.1 0 q = some q1 := (BdE.C h1175 (by rw [hqT]; decide) 0).trans hc0
      have hf1197 : K1165.1 q1 = 1 := (BdE.T h1175 ht0 (by decide))
      have hf1198 : K1165.2.2.1 1 q = some q2 := (BdE.C h1175 (by rw [hqT]; decide) 1).trans hc1
      have hf1199 : K1165.1 q2 = 1 := (BdE.T h1175 ht1 (by decide))
      have hO : OKP G h0 a (upd (upd (upd (upd (upd (upd (upd F 2 (nI sz)) 5 (nI cs1167)) 7 (nI hd)) 12 (nI vr)) 13 as1168) 14 wt1169) 15 wf1170) (updR (updR R 2 (.ref pq)) 3 (.ref mq)) Z B1166 J K1165 w := hO.to rfl
      refine W.widen (k := 0) (n := 0) (by show 0 + 0 ≤ 0; omega) (by show 0 + 0 ≤ 0; omega) ?_
      refine W.eq (g2 := F0 m 159 ls [.int (nI t1171)]) rfl ?_
      have hbe1200 := BdE.trans BdE.rfl h1175
      have hbb1201 : Bth B B1166 := Bth.trans (show Thx (upd (upd (upd (upd (upd F 2 (nI sz)) 5 (nI cs)) 7 (nI hd)) 12 (nI vr)) 13 as9) (upd (upd (upd (upd (upd F 2 (nI sz)) 5 (nI cs)) 7 (nI hd)) 12 (nI vr)) 13 as9) B B from Thx.rfl).2 h1179
      have hng1202 : Nng (B1166 18) := h1179.2 hng
      have hsw1203 : ∀ x9 : Nat, x9 < cs → (B1166 16) x9 = B 16 x9 := fun x9 hx9 => ((h1174 x9 (by omega)).1).trans ((fun _ _ => rfl) x9 hx9)
      have hsw1204 : ∀ x9 : Nat, x9 < cs → (B1166 17) x9 = B 17 x9 := fun x9 hx9 => ((h1174 x9 (by omega)).2.1).trans ((fun _ _ => rfl) x9 hx9)
      have hsw1205 : ∀ x9 : Nat, x9 < cs → (B1166 18) x9 = B 18 x9 := fun x9 hx9 => ((h1174 x9 (by omega)).2.2.1).trans ((fun _ _ => rfl) x9 hx9)
      have hsw1206 : ∀ x9 : Nat, x9 < cs → (B1166 19) x9 = B 19 x9 := fun x9 hx9 => ((h1174 x9 (by omega)).2.2.2).trans ((fun _ _ => rfl) x9 hx9)
      have hbf1207 := BeF.trans BeF.rfl h1176 BdE.rfl
      have hbl1209 := BeL.trans BeL.rfl h1177 BdE.rfl
      have hbi1210 := BeI.trans BeI.rfl h1178 BdE.rfl InE.rfl
      have hbr1208 : BeR B B1166 := BeR.trans BeR.rfl h1180
      have has1211 : AsE as9 as1168 ∧ AsE as9 wt1169 ∧ AsE as9 wf1170 := ⟨AsE.trans AsE.rfl h1183.1, AsE.trans AsE.rfl h1183.2.1, AsE.trans AsE.rfl h1183.2.2⟩
      refine W_size (fun hz1 hz2 => ?_)
      refine vx_ret ?_
      have hz1212 : SmW B B1166 cs := (fun x9 hx9 => ⟨hsw1203 x9 hx9, hsw1204 x9 hx9, hsw1205 x9 hx9, hsw1206 x9 hx9⟩)
      have hz1213 : BdE K K1165 := hbe1200
      have hz1214 : BeF K K1165 := hbf1207
      have hz1215 : BeL K K1165 none := hbl1209
      have hz1216 : BeI K K1165 g q := hbi1210
      have hz1217 : Bth B B1166 := (show Thx (upd (upd (upd (upd (upd F 2 (nI sz)) 5 (nI cs)) 7 (nI hd)) 12 (nI vr)) 13 as9) (upd (upd (upd (upd (upd (upd (upd (upd (upd F 2 (nI sz)) 5 (nI cs)) 7 (nI hd)) 12 (nI vr)) 13 as9) 5 (nI cs1167)) 13 as1168) 14 wt1169) 15 wf1170) B B1166 from (Thx.f (Thx.f (Thx.f (Thx.f (Bth.thx hbb1201) (by omega)) (by omega)) (by omega)) (by omega))).2
      have hz1218 : BeR B B1166 := hbr1208
      have hz1219 : t1171 < 128 := (by omega)
      have hz1220 : cs ≤ cs1167 ∧ cs1167 + 0 ≤ cs + 2 * tlE g q := (by omega)
      have hz1221 : AsE as9 as1168 ∧ AsE as9 wt1169 ∧ AsE as9 wf1170 := ⟨has1211.1, has1211.2.1, has1211.2.2⟩
      have hz1222 : okA → VaQ pb B B1166 Ag Ag1172 pd m9 sn lo cs cs1167 as9 as1168 wt1169 wf1170 hd sl os t1171 u1173 (K.2.1 0 q) := h1184
      have hz1223 : CaK (K.2.1 0 q) → cs1167 + 2 ≤ cs + 2 * tlE g q := (fun z9 => absurd z9 (by rw [hkd]; unfold CaK; decide))
      have hO : OKP G h0 a (upd (upd (upd (upd (upd (upd (upd F 2 (nI sz)) 5 (nI cs1167)) 7 (nI hd)) 12 (nI vr)) 13 as1168) 14 wt1169) 15 wf1170) (updR (updR R 2 (.ref pq)) 3 (.ref mq)) Z B1166 J K1165 w := hO.to rfl
      refine W.widen (k := 1) (n := 6) (by omega) (by omega) ?_
      have hzz1 : H.size ≤ s.heap.size + (0) := (by have z : 0 ≤ 0 := (by omega); omega)
      have hzz2 : hSl H ≤ hSl s.heap + (0) := (by have z : 0 ≤ 0 := (by omega); omega)
      exact W.iret (v := (nI t1171)) hx hb hr (fun t99 ht99 hW99 => ⟨⟨_, (w, (K1165, B1166, cs1167, as1168, wt1169, wf1170, t1171, Ag1172, u1173)), rfl, ⟨rfl, hz1212, hz1213, hz1214, hz1215, hz1216, hz1217, hz1218, hz1219, hz1220, hz1221, hz1222, hz1223, hO⟩, by rw [ht99]; exact hP, hD, by rw [ht99]; exact hzz1, by rw [ht99]; exact hzz2⟩, hS.F ht99⟩) hS.2.2 dX0_value_159
  by_cases h1224 : kd = 19
  · subst h1224
    refine lv_tableIn (tgt := 195) (off := 191) hx hb dX0_value_4 (by decide) (by decide) (by decide) (by decide) ?_
    have hnd := hwp.1 q hqT hqL.1
    obtain ⟨q1, hc0, ht0, hw0⟩ := NdO.ch hnd (f := 0) (by decide) (hnd.1.1 (by rw [hkd]; decide))
    have hv0 : 1 ≤ g 0 q1 ∧ g 0 q1 + 1 ≤ n := ⟨hw0.1, (by have z := hw0.2; omega)⟩
    obtain ⟨hlf0, htl, hnd0, hin0⟩ := hek9.1 (by rw [hkd]; decide) q1 hc0
    refine lv_aload_n hx hb dX0_value_195 rfl (lv_at hl 0 rfl) ?_
    refine lv_aload_n hx hb dX0_value_196 rfl (lv_at hl 1 rfl) ?_
    have hO : OKP G h0 a (upd (upd (upd (upd (upd (upd (upd (upd (upd (upd F 2 (nI sz)) 5 (nI cs)) 7 (nI hd)) 12 (nI vr)) 13 as9) 2 (nI sz)) 5 (nI cs)) 7 (nI hd)) 12 (nI vr)) 13 as9) (updR (updR (updR (updR R 2 (.ref pq)) 3 (.ref mq)) 2 (.ref pq)) 3 (.ref mq)) Z B J K w := hO.to rfl
    obtain ⟨_, qr1228, hqr1229⟩ := hO.2.1 24 _ (sg_24 G h0 a _ _ _ _ _)
    refine pn_V0 (G := G) (As := [.ref q]) (rest := []) hx hb hml hown hq hE hX pX0_al hP hD hS hA hl.1 (Y_check l G h0 a (upd (upd (upd (upd (upd F 2 (nI sz)) 5 (nI cs)) 7 (nI hd)) 12 (nI vr)) 13 as9) (updR (updR R 2 (.ref pq)) 3 (.ref mq)) Z B J K w pq dr ml nd nm cp it s9 q mq cs vr sz n q1 g rk pb Ag pd sl os m9 sn lo hd c0 as9 okA (by omega) (BdE.wp BdE.rfl hwp) (BdE.pt BdE.rfl hwp hps) (BdE.rko BdE.rfl hrk) (by omega) (by omega) hng hmq hqT hqL (EkA.be BdE.rfl (BeR.rfl 7 (by decide)) (BeR.rfl 11 (by decide)) hek) (OwC.be BdE.rfl hmq hdr0 hcO) (NaB.be BdE.rfl BeF.rfl hwp hps.2.1 hdr0 (BeR.rfl 11 (by decide)) hna) (EnV.of (BeR.rfl 26 (by decide)) (BeR.rfl 27 (by decide)) hen) (fun z => (hev0 z).1) (by omega) hop hlf hc0 ht0 hv0 hlf0 hin0 htl hnd0 ihv hO hl0) (gV pw_243 pw_244 pw_245 pw_63 pw_190) hV_X0_check qr1228 0 hqr1229 rfl rfl rfl (Nat.le_of_ble_eq_true rfl) dX0_value_197 ⟨(by show 0 + 1 ≤ 1; omega), (by show 0 + 6 ≤ 6; omega)⟩ ⟨(by show (5 * n + 33) + 1 ≤ (5 * n + 34); omega), (by show 8 + (3 + 11) + (200 * n + 560) ≤ (200 * n + 600); omega)⟩ (fun v1227 u1225 H locs hw1226 hP hD hS => ?_) (fun ux ce9 q9 H9 locs9 hux hP9 hD9 hS9 hce hcv hcl => pb_out ux (ThQ.up (Thx.same (Thx.same (Thx.same (Thx.same (Thx.same Thx.rfl rfl) rfl) rfl) rfl) rfl) (show RhX (updR (updR R 2 (.ref pq)) 3 (.ref mq)) (updR (updR (updR (updR R 2 (.ref pq)) 3 (.ref mq)) 2 (.ref pq)) 3 (.ref mq)) from fun k9 hk9 => by unfold updR; simp only [show ¬ k9 = 1 by omega, show ¬ k9 = 2 by omega, show ¬ k9 = 3 by omega, show ¬ k9 = 4 by omega, if_false]) hux) hnt hlocks hce hcv hcl hP9 hD9 hS9 (by show 0 + 1 ≤ 1; omega) (by show 0 + 6 ≤ 6; omega))
    obtain ⟨w, K1230, B1231, cs1232, as1233, wt1234, wf1235, t1236, Ag1237⟩ := u1225
    obtain ⟨hw1226, h1238, h1239, h1240, h1241, h1242, h1243, h1244, h1245, h1246, h1247, h1248, hO⟩ := hw1226
    have h1238 : SmW B B1231 cs := h1238
    have h1239 : BdE K K1230 := h1239
    have h1240 : BeF K K1230 := h1240
    have h1241 : BeL K K1230 none := h1241
    have h1242 : BeI K K1230 g q := h1242
    have h1243 : Bth B B1231 := h1243
    have h1244 : BeR B B1231 := h1244
    have h1245 : t1236 < 128 := h1245
    have h1246 : cs ≤ cs1232 ∧ cs1232 + 0 ≤ cs + 2 * tlE g q := h1246
    have h1247 : AsE as9 as1233 := h1247
    have h1248 : okA → PlQ pb B B1231 Ag Ag1237 pd m9 sn lo cs cs1232 as9 as1233 hd sl os t1236 (K.2.1 0 q) := h1248
    obtain rfl : v1227 = some (.int (nI t1236)) := hw1226
    have hf1249 : K1230.1 pq = 7 := (BdE.T h1239 hp1 (by decide))
    have hf1250 : K1230.2.2.1 18 pq = some (a 1) := (BdE.C h1239 (by rw [hp1]; decide) 18).trans hp2
    have hf1251 : K1230.2.2.1 14 pq = some dr := (BdE.C h1239 (by rw [hp1]; decide) 14).trans hp3
    have hf1252 : K1230.1 dr = 8 := (BdE.T h1239 hp4 (by decide))
    have hf1253 : K1230.2.2.1 15 pq = some ml := (BdE.C h1239 (by rw [hp1]; decide) 15).trans hp5
    have hf1254 : K1230.1 ml = 5 := (BdE.T h1239 hp6 (by decide))
    have hf1255 : K1230.2.1 24 pq = (nI nd) := (BdE.I h1239 (by rw [hp1]; decide) (by decide) (by decide)).trans hp8
    have hf1256 : K1230.1 q = 1 := (BdE.T h1239 hqT (by decide))
    have hf1257 : K1230.1 mq = 3 := (BdE.T h1239 hmq (by decide))
    have hf1258 : K1230.2.1 0 q = 19 := (BdE.I h1239 (by rw [hqT]; decide) (by decide) (by decide)).trans hkd
    have hf1259 : K1230.2.1 1 q = tk := (BdE.I h1239 (by rw [hqT]; decide) (by decide) (by decide)).trans htk
    have hf1260 : K1230.2.2.1 0 q = some q1 := (BdE.C h1239 (by rw [hqT]; decide) 0).trans hc0
    have hf1261 : K1230.1 q1 = 1 := (BdE.T h1239 ht0 (by decide))
    have hO : OKP G h0 a (upd (upd (upd (upd (upd (upd (upd F 2 (nI sz)) 5 (nI cs1232)) 7 (nI hd)) 12 (nI vr)) 13 as1233) 14 wt1234) 15 wf1235) (updR (updR R 2 (.ref pq)) 3 (.ref mq)) Z B1231 J K1230 w := hO.to rfl
    refine W.widen (k := 0) (n := 0) (by show 0 + 0 ≤ 0; omega) (by show 0 + 0 ≤ 0; omega) ?_
    refine W.eq (g2 := F0 m 200 ls [.int (nI t1236)]) rfl ?_
    have hbe1262 := BdE.trans BdE.rfl h1239
    have hbb1263 : Bth B B1231 := Bth.trans (show Thx (upd (upd (upd (upd (upd F 2 (nI sz)) 5 (nI cs)) 7 (nI hd)) 12 (nI vr)) 13 as9) (upd (upd (upd (upd (upd F 2 (nI sz)) 5 (nI cs)) 7 (nI hd)) 12 (nI vr)) 13 as9) B B from Thx.rfl).2 h1243
    have hng1264 : Nng (B1231 18) := h1243.2 hng
    have hsw1265 : ∀ x9 : Nat, x9 < cs → (B1231 16) x9 = B 16 x9 := fun x9 hx9 => ((h1238 x9 (by omega)).1).trans ((fun _ _ => rfl) x9 hx9)
    have hsw1266 : ∀ x9 : Nat, x9 < cs → (B1231 17) x9 = B 17 x9 := fun x9 hx9 => ((h1238 x9 (by omega)).2.1).trans ((fun _ _ => rfl) x9 hx9)
    have hsw1267 : ∀ x9 : Nat, x9 < cs → (B1231 18) x9 = B 18 x9 := fun x9 hx9 => ((h1238 x9 (by omega)).2.2.1).trans ((fun _ _ => rfl) x9 hx9)
    have hsw1268 : ∀ x9 : Nat, x9 < cs → (B1231 19) x9 = B 19 x9 := fun x9 hx9 => ((h1238 x9 (by omega)).2.2.2).trans ((fun _ _ => rfl) x9 hx9)
    have hbf1269 := BeF.trans BeF.rfl h1240 BdE.rfl
    have hbl1271 := BeL.trans BeL.rfl h1241 BdE.rfl
    have hbi1272 := BeI.trans BeI.rfl h1242 BdE.rfl InE.rfl
    have hbr1270 : BeR B B1231 := BeR.trans BeR.rfl h1244
    have has1273 : AsE as9 as1233 := AsE.trans AsE.rfl h1247
    refine lv_istore_n (lv' := [(2, .int (nI t1236)), (0, .ref (a 4)), (1, .ref q)]) hx hb dX0_value_200 rfl hl (by decide) rfl (fun ls hl => ?_)
    refine lv_goto (tgt := 298) hx hb dX0_value_201 (by decide) ?_
    refine lv_aload_n hx hb dX0_value_298 rfl (lv_at hl 1 rfl) ?_
    refine lv_aload_n hx hb dX0_value_299 rfl (lv_at hl 1 rfl) ?_
    refine c_get (v := .int as1233) (C := RX0) (Tc := TX0) (N := 13) (ci := 0) hx hb hq pin_wsX00 hown hE hP hO 24 (sg_24 G h0 a _ _ _ _ _) rfl 8 (by decide) (hq _ pw_55) (fun _ h9 => h9) rfl dX0_value_300 ?_
    refine c_put (v := .int as1233) (ty := .int) (C := RX0) (Tc := TX0) (N := 13) (ci := 0) hx hb hq pin_wsX00 tyX0 tyX0_ok nmX0 hown hE hP hD hS hO 24 (sg_24 G h0 a _ _ _ _ _) rfl 9 (by decide) (hq _ pw_156) (fun _ h9 => h9) rfl (by decide +kernel) rfl rfl (Nat.le_of_ble_eq_true rfl) (sf_14 G h0 a _ _ _ _ _ as1233) dX0_value_303 (fun H locs w hP hD hS hO => ?_)
    refine lv_aload_n hx hb dX0_value_306 rfl (lv_at hl 1 rfl) ?_
    refine lv_aload_n hx hb dX0_value_307 rfl (lv_at hl 1 rfl) ?_
    refine c_get (v := .int as1233) (C := RX0) (Tc := TX0) (N := 13) (ci := 0) hx hb hq pin_wsX00 hown hE hP hO 24 (sg_24 G h0 a _ _ _ _ _) rfl 8 (by decide) (hq _ pw_55) (fun _ h9 => h9) rfl dX0_value_308 ?_
    refine c_put (v := .int as1233) (ty := .int) (C := RX0) (Tc := TX0) (N := 13) (ci := 0) hx hb hq pin_wsX00 tyX0 tyX0_ok nmX0 hown hE hP hD hS hO 24 (sg_24 G h0 a _ _ _ _ _) rfl 10 (by decide) (hq _ pw_157) (fun _ h9 => h9) rfl (by decide +kernel) rfl rfl (Nat.le_of_ble_eq_true rfl) (sf_15 G h0 a _ _ _ _ _ as1233) dX0_value_311 (fun H locs w hP hD hS hO => ?_)
    refine lv_iload_n hx hb dX0_value_314 rfl (lv_at hl 0 rfl) ?_
    refine W_size (fun hz1 hz2 => ?_)
    refine vx_ret ?_
    have hz1274 : SmW B B1231 cs := (fun x9 hx9 => ⟨hsw1265 x9 hx9, hsw1266 x9 hx9, hsw1267 x9 hx9, hsw1268 x9 hx9⟩)
    have hz1275 : BdE K K1230 := hbe1262
    have hz1276 : BeF K K1230 := hbf1269
    have hz1277 : BeL K K1230 none := hbl1271
    have hz1278 : BeI K K1230 g q := hbi1272
    have hz1279 : Bth B B1231 := (show Thx (upd (upd (upd (upd (upd F 2 (nI sz)) 5 (nI cs)) 7 (nI hd)) 12 (nI vr)) 13 as9) (upd (upd (upd (upd (upd (upd (upd (upd (upd F 2 (nI sz)) 5 (nI cs)) 7 (nI hd)) 12 (nI vr)) 13 as9) 5 (nI cs1232)) 13 as1233) 14 as1233) 15 as1233) B B1231 from (Thx.f (Thx.f (Thx.f (Thx.f (Bth.thx hbb1263) (by omega)) (by omega)) (by omega)) (by omega))).2
    have hz1280 : BeR B B1231 := hbr1270
    have hz1281 : t1236 < 128 := (by omega)
    have hz1282 : cs ≤ cs1232 ∧ cs1232 + 0 ≤ cs + 2 * tlE g q := (by omega)
    have hz1283 : AsE as9 as1233 ∧ AsE as9 as1233 ∧ AsE as9 as1233 := ⟨has1273, has1273, has1273⟩
    have hz1284 : okA → VaQ pb B B1231 Ag Ag1237 pd m9 sn lo cs cs1232 as9 as1233 as1233 as1233 hd sl os t1236 t1236 (K.2.1 0 q) := (fun z => PlQ.va (h1248 z) h1245)
    have hz1285 : CaK (K.2.1 0 q) → cs1232 + 2 ≤ cs + 2 * tlE g q := (fun z9 => absurd z9 (by rw [hkd]; unfold CaK; decide))
    have hO : OKP G h0 a (upd (upd (upd (upd (upd (upd (upd F 2 (nI sz)) 5 (nI cs1232)) 7 (nI hd)) 12 (nI vr)) 13 as1233) 14 as1233) 15 as1233) (updR (updR R 2 (.ref pq)) 3 (.ref mq)) Z B1231 J K1230 w := hO.to rfl
    refine W.widen (k := 1) (n := 6) (by omega) (by omega) ?_
    have hzz1 : H.size ≤ s.heap.size + (0) := (by have z : 0 ≤ 0 := (by omega); omega)
    have hzz2 : hSl H ≤ hSl s.heap + (0) := (by have z : 0 ≤ 0 := (by omega); omega)
    exact W.iret (v := (nI t1236)) hx hb hr (fun t99 ht99 hW99 => ⟨⟨_, (w, (K1230, B1231, cs1232, as1233, as1233, as1233, t1236, Ag1237, t1236)), rfl, ⟨rfl, hz1274, hz1275, hz1276, hz1277, hz1278, hz1279, hz1280, hz1281, hz1282, hz1283, hz1284, hz1285, hO⟩, by rw [ht99]; exact hP, hD, by rw [ht99]; exact hzz1, by rw [ht99]; exact hzz2⟩, hS.F ht99⟩) hS.2.2 dX0_value_315
  by_cases h1286 : kd = 20
  · subst h1286
    refine lv_tableIn (tgt := 160) (off := 156) hx hb dX0_value_4 (by decide) (by decide) (by decide) (by decide) ?_
    have hnd := hwp.1 q hqT hqL.1
    obtain ⟨q1, hc0, ht0, hw0⟩ := NdO.ch hnd (f := 0) (by decide) ((hnd.1.2.2.1 hkd).1)
    have hv0 : 1 ≤ g 0 q1 ∧ g 0 q1 + 1 ≤ n := ⟨hw0.1, (by have z := hw0.2; omega)⟩
    obtain ⟨q2, hc1, ht1, hw1⟩ := NdO.ch hnd (f := 1) (by decide) ((hnd.1.2.2.1 hkd).2.1)
    have hv1 : 1 ≤ g 0 q2 ∧ g 0 q2 + 1 ≤ n := ⟨hw1.1, (by have z := hw1.2; omega)⟩
    obtain ⟨q3, hc2, ht2, hw2⟩ := NdO.ch hnd (f := 2) (by decide) ((hnd.1.2.2.1 hkd).2.2)
    have hv2 : 1 ≤ g 0 q3 ∧ g 0 q3 + 1 ≤ n := ⟨hw2.1, (by have z := hw2.2; omega)⟩
    obtain ⟨hlf0, hlf1, hlf2, htl, hnd0, hnd1, hnd2, hin0, hin1, hin2⟩ := hek9.2.2.1 hkd q1 q2 q3 hc0 hc1 hc2
    refine lv_aload_n hx hb dX0_value_160 rfl (lv_at hl 0 rfl) ?_
    refine lv_aload_n hx hb dX0_value_161 rfl (lv_at hl 1 rfl) ?_
    have hO : OKP G h0 a (upd (upd (upd (upd (upd (upd (upd (upd (upd (upd F 2 (nI sz)) 5 (nI cs)) 7 (nI hd)) 12 (nI vr)) 13 as9) 2 (nI sz)) 5 (nI cs)) 7 (nI hd)) 12 (nI vr)) 13 as9) (updR (updR (updR (updR R 2 (.ref pq)) 3 (.ref mq)) 2 (.ref pq)) 3 (.ref mq)) Z B J K w := hO.to rfl
    obtain ⟨_, qr1290, hqr1291⟩ := hO.2.1 24 _ (sg_24 G h0 a _ _ _ _ _)
    refine pn_V0 (G := G) (As := [.ref q]) (rest := []) hx hb hml hown hq hE hX pX0_al hP hD hS hA hl.1 (Y_choice l G h0 a (upd (upd (upd (upd (upd F 2 (nI sz)) 5 (nI cs)) 7 (nI hd)) 12 (nI vr)) 13 as9) (updR (updR R 2 (.ref pq)) 3 (.ref mq)) Z B J K w pq dr ml nd nm cp it s9 q mq cs vr sz n q1 q2 q3 g rk pb Ag pd sl os m9 sn lo hd c0 as9 okA (by omega) (BdE.wp BdE.rfl hwp) (BdE.pt BdE.rfl hwp hps) (BdE.rko BdE.rfl hrk) (by omega) (by omega) hng hmq hqT hqL (EkA.be BdE.rfl (BeR.rfl 7 (by decide)) (BeR.rfl 11 (by decide)) hek) (OwC.be BdE.rfl hmq hdr0 hcO) (NaB.be BdE.rfl BeF.rfl hwp hps.2.1 hdr0 (BeR.rfl 11 (by decide)) hna) (EnV.of (BeR.rfl 26 (by decide)) (BeR.rfl 27 (by decide)) hen) (fun z => (hev0 z).1) (by omega) hop hlf hc0 ht0 hv0 hlf0 hin0 hc1 ht1 hv1 hlf1 hin1 hc2 ht2 hv2 hlf2 hin2 htl hnd0 hnd1 hnd2 ihv hO hl0) (gV pw_234 pw_235 pw_236 pw_63 pw_195) hV_X0_choice qr1290 0 hqr1291 rfl rfl rfl (Nat.le_of_ble_eq_true rfl) dX0_value_162 ⟨(by show 0 + 1 ≤ 1; omega), (by show 0 + 6 ≤ 6; omega)⟩ ⟨(by show (5 * n + 33) + 1 ≤ (5 * n + 34); omega), (by show 8 + (9 + 11) + (200 * n + 560) ≤ (200 * n + 600); omega)⟩ (fun v1289 u1287 H locs hw1288 hP hD hS => ?_) (fun ux ce9 q9 H9 locs9 hux hP9 hD9 hS9 hce hcv hcl => pb_out ux (ThQ.up (Thx.same (Thx.same (Thx.same (Thx.same (Thx.same Thx.rfl rfl) rfl) rfl) rfl) rfl) (show RhX (updR (updR R 2 (.ref pq)) 3 (.ref mq)) (updR (updR (updR (updR R 2 (.ref pq)) 3 (.ref mq)) 2 (.ref pq)) 3 (.ref mq)) from fun k9 hk9 => by unfold updR; simp only [show ¬ k9 = 1 by omega, show ¬ k9 = 2 by omega, show ¬ k9 = 3 by omega, show ¬ k9 = 4 by omega, if_false]) hux) hnt hlocks hce hcv hcl hP9 hD9 hS9 (by show 0 + 1 ≤ 1; omega) (by show 0 + 6 ≤ 6; omega))
    obtain ⟨w, K1292, B1293, cs1294, as1295, wt1296, wf1297, t1298, Ag1299, u1300⟩ := u1287
    obtain ⟨hw1288, h1301, h1302, h1303, h1304, h1305, h1306, h1307, h1308, h1309, h1310, h1311, hO⟩ := hw1288
    have h1301 : SmW B B1293 cs := h1301
    have h1302 : BdE K K1292 := h1302
    have h1303 : BeF K K1292 := h1303
    have h1304 : BeL K K1292 none := h1304
    have h1305 : BeI K K1292 g q := h1305
    have h1306 : Bth B B1293 := h1306
    have h1307 : BeR B B1293 := h1307
    have h1308 : t1298 < 128 := h1308
    have h1309 : cs ≤ cs1294 ∧ cs1294 + 0 ≤ cs + 2 * tlE g q := h1309
    have h1310 : AsE as9 as1295 ∧ AsE as9 wt1296 ∧ AsE as9 wf1297 := h1310
    have h1311 : okA → VaQ pb B B1293 Ag Ag1299 pd m9 sn lo cs cs1294 as9 as1295 wt1296 wf1297 hd sl os t1298 u1300 (K.2.1 0 q) := h1311
    obtain rfl : v1289 = some (.int (nI t1298)) := hw1288
    have hf1312 : K1292.1 pq = 7 := (BdE.T h1302 hp1 (by decide))
    have hf1313 : K1292.2.2.1 18 pq = some (a 1) := (BdE.C h1302 (by rw [hp1]; decide) 18).trans hp2
    have hf1314 : K1292.2.2.1 14 pq = some dr := (BdE.C h1302 (by rw [hp1]; decide) 14).trans hp3
    have hf1315 : K1292.1 dr = 8 := (BdE.T h1302 hp4 (by decide))
    have hf1316 : K1292.2.2.1 15 pq = some ml := (BdE.C h1302 (by rw [hp1]; decide) 15).trans hp5
    have hf1317 : K1292.1 ml = 5 := (BdE.T h1302 hp6 (by decide))
    have hf1318 : K1292.2.1 24 pq = (nI nd) := (BdE.I h1302 (by rw [hp1]; decide) (by decide) (by decide)).trans hp8
    have hf1319 : K1292.1 q = 1 := (BdE.T h1302 hqT (by decide))
    have hf1320 : K1292.1 mq = 3 := (BdE.T h1302 hmq (by decide))
    have hf1321 : K1292.2.1 0 q = 20 := (BdE.I h1302 (by rw [hqT]; decide) (by decide) (by decide)).trans hkd
    have hf1322 : K1292.2.1 1 q = tk := (BdE.I h1302 (by rw [hqT]; decide) (by decide) (by decide)).trans htk
    have hf1323 : K1292.2.2.1 0 q = some q1 := (BdE.C h1302 (by rw [hqT]; decide) 0).trans hc0
    have hf1324 : K1292.1 q1 = 1 := (BdE.T h1302 ht0 (by decide))
    have hf1325 : K1292.2.2.1 1 q = some q2 := (BdE.C h1302 (by rw [hqT]; decide) 1).trans hc1
    have hf1326 : K1292.1 q2 = 1 := (BdE.T h1302 ht1 (by decide))
    have hf1327 : K1292.2.2.1 2 q = some q3 := (BdE.C h1302 (by rw [hqT]; decide) 2).trans hc2
    have hf1328 : K1292.1 q3 = 1 := (BdE.T h1302 ht2 (by decide))
    have hO : OKP G h0 a (upd (upd (upd (upd (upd (upd (upd F 2 (nI sz)) 5 (nI cs1294)) 7 (nI hd)) 12 (nI vr)) 13 as1295) 14 wt1296) 15 wf1297) (updR (updR R 2 (.ref pq)) 3 (.ref mq)) Z B1293 J K1292 w := hO.to rfl
    refine W.widen (k := 0) (n := 0) (by show 0 + 0 ≤ 0; omega) (by show 0 + 0 ≤ 0; omega) ?_
    refine W.eq (g2 := F0 m 165 ls [.int (nI t1298)]) rfl ?_
    have hbe1329 := BdE.trans BdE.rfl h1302
    have hbb1330 : Bth B B1293 := Bth.trans (show Thx (upd (upd (upd (upd (upd F 2 (nI sz)) 5 (nI cs)) 7 (nI hd)) 12 (nI vr)) 13 as9) (upd (upd (upd (upd (upd F 2 (nI sz)) 5 (nI cs)) 7 (nI hd)) 12 (nI vr)) 13 as9) B B from Thx.rfl).2 h1306
    have hng1331 : Nng (B1293 18) := h1306.2 hng
    have hsw1332 : ∀ x9 : Nat, x9 < cs → (B1293 16) x9 = B 16 x9 := fun x9 hx9 => ((h1301 x9 (by omega)).1).trans ((fun _ _ => rfl) x9 hx9)
    have hsw1333 : ∀ x9 : Nat, x9 < cs → (B1293 17) x9 = B 17 x9 := fun x9 hx9 => ((h1301 x9 (by omega)).2.1).trans ((fun _ _ => rfl) x9 hx9)
    have hsw1334 : ∀ x9 : Nat, x9 < cs → (B1293 18) x9 = B 18 x9 := fun x9 hx9 => ((h1301 x9 (by omega)).2.2.1).trans ((fun _ _ => rfl) x9 hx9)
    have hsw1335 : ∀ x9 : Nat, x9 < cs → (B1293 19) x9 = B 19 x9 := fun x9 hx9 => ((h1301 x9 (by omega)).2.2.2).trans ((fun _ _ => rfl) x9 hx9)
    have hbf1336 := BeF.trans BeF.rfl h1303 BdE.rfl
    have hbl1338 := BeL.trans BeL.rfl h1304 BdE.rfl
    have hbi1339 := BeI.trans BeI.rfl h1305 BdE.rfl InE.rfl
    have hbr1337 : BeR B B1293 := BeR.trans BeR.rfl h1307
    have has1340 : AsE as9 as1295 ∧ AsE as9 wt1296 ∧ AsE as9 wf1297 := ⟨AsE.trans AsE.rfl h1310.1, AsE.trans AsE.rfl h1310.2.1, AsE.trans AsE.rfl h1310.2.2⟩
    refine W_size (fun hz1 hz2 => ?_)
    refine vx_ret ?_
    have hz1341 : SmW B B1293 cs := (fun x9 hx9 => ⟨hsw1332 x9 hx9, hsw1333 x9 hx9, hsw1334 x9 hx9, hsw1335 x9 hx9⟩)
    have hz1342 : BdE K K1292 := hbe1329
    have hz1343 : BeF K K1292 := hbf1336
    have hz1344 : BeL K K1292 none := hbl1338
    have hz1345 : BeI K K1292 g q := hbi1339
    have hz1346 : Bth B B1293 := (show Thx (upd (upd (upd (upd (upd F 2 (nI sz)) 5 (nI cs)) 7 (nI hd)) 12 (nI vr)) 13 as9) (upd (upd (upd (upd (upd (upd (upd (upd (upd F 2 (nI sz)) 5 (nI cs)) 7 (nI hd)) 12 (nI vr)) 13 as9) 5 (nI cs1294)) 13 as1295) 14 wt1296) 15 wf1297) B B1293 from (Thx.f (Thx.f (Thx.f (Thx.f (Bth.thx hbb1330) (by omega)) (by omega)) (by omega)) (by omega))).2
    have hz1347 : BeR B B1293 := hbr1337
    have hz1348 : t1298 < 128 := (by omega)
    have hz1349 : cs ≤ cs1294 ∧ cs1294 + 0 ≤ cs + 2 * tlE g q := (by omega)
    have hz1350 : AsE as9 as1295 ∧ AsE as9 wt1296 ∧ AsE as9 wf1297 := ⟨has1340.1, has1340.2.1, has1340.2.2⟩
    have hz1351 : okA → VaQ pb B B1293 Ag Ag1299 pd m9 sn lo cs cs1294 as9 as1295 wt1296 wf1297 hd sl os t1298 u1300 (K.2.1 0 q) := h1311
    have hz1352 : CaK (K.2.1 0 q) → cs1294 + 2 ≤ cs + 2 * tlE g q := (fun z9 => absurd z9 (by rw [hkd]; unfold CaK; decide))
    have hO : OKP G h0 a (upd (upd (upd (upd (upd (upd (upd F 2 (nI sz)) 5 (nI cs1294)) 7 (nI hd)) 12 (nI vr)) 13 as1295) 14 wt1296) 15 wf1297) (updR (updR R 2 (.ref pq)) 3 (.ref mq)) Z B1293 J K1292 w := hO.to rfl
    refine W.widen (k := 1) (n := 6) (by omega) (by omega) ?_
    have hzz1 : H.size ≤ s.heap.size + (0) := (by have z : 0 ≤ 0 := (by omega); omega)
    have hzz2 : hSl H ≤ hSl s.heap + (0) := (by have z : 0 ≤ 0 := (by omega); omega)
    exact W.iret (v := (nI t1298)) hx hb hr (fun t99 ht99 hW99 => ⟨⟨_, (w, (K1292, B1293, cs1294, as1295, wt1296, wf1297, t1298, Ag1299, u1300)), rfl, ⟨rfl, hz1341, hz1342, hz1343, hz1344, hz1345, hz1346, hz1347, hz1348, hz1349, hz1350, hz1351, hz1352, hO⟩, by rw [ht99]; exact hP, hD, by rw [ht99]; exact hzz1, by rw [ht99]; exact hzz2⟩, hS.F ht99⟩) hS.2.2 dX0_value_165
  refine lv_tableOut (tgt := 292) hx hb dX0_value_4 (sw_out20 h1 h63 h125 h185 h245 h305 h365 h431 h491 h553 h613 h673 h754 h816 h895 h957 h1020 h1089 h1224 h1286) (by decide) ?_
  refine lv_aload_n hx hb dX0_value_292 rfl (lv_at hl 0 rfl) ?_
  refine lv_aload_n hx hb dX0_value_293 rfl (lv_at hl 1 rfl) ?_
  have hO : OKP G h0 a (upd (upd (upd (upd (upd (upd (upd (upd (upd (upd F 2 (nI sz)) 5 (nI cs)) 7 (nI hd)) 12 (nI vr)) 13 as9) 2 (nI sz)) 5 (nI cs)) 7 (nI hd)) 12 (nI vr)) 13 as9) (updR (updR (updR (updR R 2 (.ref pq)) 3 (.ref mq)) 2 (.ref pq)) 3 (.ref mq)) Z B J K w := hO.to rfl
  obtain ⟨_, qr1356, hqr1357⟩ := hO.2.1 24 _ (sg_24 G h0 a _ _ _ _ _)
  refine pn_V0 (G := G) (As := [.ref q]) (rest := []) hx hb hml hown hq hE hX pX0_al hP hD hS hA hl.1 (Y_single l G h0 a (upd (upd (upd (upd (upd F 2 (nI sz)) 5 (nI cs)) 7 (nI hd)) 12 (nI vr)) 13 as9) (updR (updR R 2 (.ref pq)) 3 (.ref mq)) Z B J K w pq dr ml nd nm cp it s9 q mq cs vr sz n g rk pb Ag pd sl os m9 sn lo hd c0 as9 okA (by omega) (BdE.wp BdE.rfl hwp) (BdE.pt BdE.rfl hwp hps) (BdE.rko BdE.rfl hrk) (by omega) (by omega) hng hmq hqT hqL (EkA.be BdE.rfl (BeR.rfl 7 (by decide)) (BeR.rfl 11 (by decide)) hek) (OwC.be BdE.rfl hmq hdr0 hcO) (NaB.be BdE.rfl BeF.rfl hwp hps.2.1 hdr0 (BeR.rfl 11 (by decide)) hna) (EnV.of (BeR.rfl 26 (by decide)) (BeR.rfl 27 (by decide)) hen) (fun z => (hev0 z).1) (by omega) hop hlf (fun e9 => by rw [hkd] at e9; rcases e9 with e9 | e9; exact h553 e9; exact h613 e9) hek9.2.2.2.2.2.2.1 hO hl0) (gV pw_267 pw_268 pw_269 pw_63 pw_168) hV_X0_single qr1356 0 hqr1357 rfl rfl rfl (Nat.le_of_ble_eq_true rfl) dX0_value_294 ⟨(by show 0 + 1 ≤ 1; omega), (by show 0 + 6 ≤ 6; omega)⟩ ⟨(by show (5 * n + 33) + 1 ≤ (5 * n + 34); omega), (by show 8 + (2 + 11) + (200 * n + 560) ≤ (200 * n + 600); omega)⟩ (fun v1355 u1353 H locs hw1354 hP hD hS => ?_) (fun ux ce9 q9 H9 locs9 hux hP9 hD9 hS9 hce hcv hcl => pb_out ux (ThQ.up (Thx.same (Thx.same (Thx.same (Thx.same (Thx.same Thx.rfl rfl) rfl) rfl) rfl) rfl) (show RhX (updR (updR R 2 (.ref pq)) 3 (.ref mq)) (updR (updR (updR (updR R 2 (.ref pq)) 3 (.ref mq)) 2 (.ref pq)) 3 (.ref mq)) from fun k9 hk9 => by unfold updR; simp only [show ¬ k9 = 1 by omega, show ¬ k9 = 2 by omega, show ¬ k9 = 3 by omega, show ¬ k9 = 4 by omega, if_false]) hux) hnt hlocks hce hcv hcl hP9 hD9 hS9 (by show 0 + 1 ≤ 1; omega) (by show 0 + 6 ≤ 6; omega))
  obtain ⟨w, K1358, B1359, cs1360, as1361, wt1362, wf1363, t1364, Ag1365⟩ := u1353
  obtain ⟨hw1354, h1366, h1367, h1368, h1369, h1370, h1371, h1372, h1373, h1374, h1375, h1376, hO⟩ := hw1354
  have h1366 : SmW B B1359 cs := h1366
  have h1367 : BdE K K1358 := h1367
  have h1368 : BeF K K1358 := h1368
  have h1369 : BeL K K1358 none := h1369
  have h1370 : BeI K K1358 g q := h1370
  have h1371 : Bth B B1359 := h1371
  have h1372 : BeR B B1359 := h1372
  have h1373 : t1364 < 128 := h1373
  have h1374 : cs ≤ cs1360 ∧ cs1360 + 0 ≤ cs + 2 * tlE g q := h1374
  have h1375 : AsE as9 as1361 := h1375
  have h1376 : okA → PlQ pb B B1359 Ag Ag1365 pd m9 sn lo cs cs1360 as9 as1361 hd sl os t1364 (K.2.1 0 q) := h1376
  obtain rfl : v1355 = some (.int (nI t1364)) := hw1354
  have hf1377 : K1358.1 pq = 7 := (BdE.T h1367 hp1 (by decide))
  have hf1378 : K1358.2.2.1 18 pq = some (a 1) := (BdE.C h1367 (by rw [hp1]; decide) 18).trans hp2
  have hf1379 : K1358.2.2.1 14 pq = some dr := (BdE.C h1367 (by rw [hp1]; decide) 14).trans hp3
  have hf1380 : K1358.1 dr = 8 := (BdE.T h1367 hp4 (by decide))
  have hf1381 : K1358.2.2.1 15 pq = some ml := (BdE.C h1367 (by rw [hp1]; decide) 15).trans hp5
  have hf1382 : K1358.1 ml = 5 := (BdE.T h1367 hp6 (by decide))
  have hf1383 : K1358.2.1 24 pq = (nI nd) := (BdE.I h1367 (by rw [hp1]; decide) (by decide) (by decide)).trans hp8
  have hf1384 : K1358.1 q = 1 := (BdE.T h1367 hqT (by decide))
  have hf1385 : K1358.1 mq = 3 := (BdE.T h1367 hmq (by decide))
  have hf1386 : K1358.2.1 0 q = kd := (BdE.I h1367 (by rw [hqT]; decide) (by decide) (by decide)).trans hkd
  have hf1387 : K1358.2.1 1 q = tk := (BdE.I h1367 (by rw [hqT]; decide) (by decide) (by decide)).trans htk
  have hO : OKP G h0 a (upd (upd (upd (upd (upd (upd (upd F 2 (nI sz)) 5 (nI cs1360)) 7 (nI hd)) 12 (nI vr)) 13 as1361) 14 wt1362) 15 wf1363) (updR (updR R 2 (.ref pq)) 3 (.ref mq)) Z B1359 J K1358 w := hO.to rfl
  refine W.widen (k := 0) (n := 0) (by show 0 + 0 ≤ 0; omega) (by show 0 + 0 ≤ 0; omega) ?_
  refine W.eq (g2 := F0 m 297 ls [.int (nI t1364)]) rfl ?_
  have hbe1388 := BdE.trans BdE.rfl h1367
  have hbb1389 : Bth B B1359 := Bth.trans (show Thx (upd (upd (upd (upd (upd F 2 (nI sz)) 5 (nI cs)) 7 (nI hd)) 12 (nI vr)) 13 as9) (upd (upd (upd (upd (upd F 2 (nI sz)) 5 (nI cs)) 7 (nI hd)) 12 (nI vr)) 13 as9) B B from Thx.rfl).2 h1371
  have hng1390 : Nng (B1359 18) := h1371.2 hng
  have hsw1391 : ∀ x9 : Nat, x9 < cs → (B1359 16) x9 = B 16 x9 := fun x9 hx9 => ((h1366 x9 (by omega)).1).trans ((fun _ _ => rfl) x9 hx9)
  have hsw1392 : ∀ x9 : Nat, x9 < cs → (B1359 17) x9 = B 17 x9 := fun x9 hx9 => ((h1366 x9 (by omega)).2.1).trans ((fun _ _ => rfl) x9 hx9)
  have hsw1393 : ∀ x9 : Nat, x9 < cs → (B1359 18) x9 = B 18 x9 := fun x9 hx9 => ((h1366 x9 (by omega)).2.2.1).trans ((fun _ _ => rfl) x9 hx9)
  have hsw1394 : ∀ x9 : Nat, x9 < cs → (B1359 19) x9 = B 19 x9 := fun x9 hx9 => ((h1366 x9 (by omega)).2.2.2).trans ((fun _ _ => rfl) x9 hx9)
  have hbf1395 := BeF.trans BeF.rfl h1368 BdE.rfl
  have hbl1397 := BeL.trans BeL.rfl h1369 BdE.rfl
  have hbi1398 := BeI.trans BeI.rfl h1370 BdE.rfl InE.rfl
  have hbr1396 : BeR B B1359 := BeR.trans BeR.rfl h1372
  have has1399 : AsE as9 as1361 := AsE.trans AsE.rfl h1375
  refine lv_istore_n (lv' := [(2, .int (nI t1364)), (0, .ref (a 4)), (1, .ref q)]) hx hb dX0_value_297 rfl hl (by decide) rfl (fun ls hl => ?_)
  refine lv_aload_n hx hb dX0_value_298 rfl (lv_at hl 1 rfl) ?_
  refine lv_aload_n hx hb dX0_value_299 rfl (lv_at hl 1 rfl) ?_
  refine c_get (v := .int as1361) (C := RX0) (Tc := TX0) (N := 13) (ci := 0) hx hb hq pin_wsX00 hown hE hP hO 24 (sg_24 G h0 a _ _ _ _ _) rfl 8 (by decide) (hq _ pw_55) (fun _ h9 => h9) rfl dX0_value_300 ?_
  refine c_put (v := .int as1361) (ty := .int) (C := RX0) (Tc := TX0) (N := 13) (ci := 0) hx hb hq pin_wsX00 tyX0 tyX0_ok nmX0 hown hE hP hD hS hO 24 (sg_24 G h0 a _ _ _ _ _) rfl 9 (by decide) (hq _ pw_156) (fun _ h9 => h9) rfl (by decide +kernel) rfl rfl (Nat.le_of_ble_eq_true rfl) (sf_14 G h0 a _ _ _ _ _ as1361) dX0_value_303 (fun H locs w hP hD hS hO => ?_)
  refine lv_aload_n hx hb dX0_value_306 rfl (lv_at hl 1 rfl) ?_
  refine lv_aload_n hx hb dX0_value_307 rfl (lv_at hl 1 rfl) ?_
  refine c_get (v := .int as1361) (C := RX0) (Tc := TX0) (N := 13) (ci := 0) hx hb hq pin_wsX00 hown hE hP hO 24 (sg_24 G h0 a _ _ _ _ _) rfl 8 (by decide) (hq _ pw_55) (fun _ h9 => h9) rfl dX0_value_308 ?_
  refine c_put (v := .int as1361) (ty := .int) (C := RX0) (Tc := TX0) (N := 13) (ci := 0) hx hb hq pin_wsX00 tyX0 tyX0_ok nmX0 hown hE hP hD hS hO 24 (sg_24 G h0 a _ _ _ _ _) rfl 10 (by decide) (hq _ pw_157) (fun _ h9 => h9) rfl (by decide +kernel) rfl rfl (Nat.le_of_ble_eq_true rfl) (sf_15 G h0 a _ _ _ _ _ as1361) dX0_value_311 (fun H locs w hP hD hS hO => ?_)
  refine lv_iload_n hx hb dX0_value_314 rfl (lv_at hl 0 rfl) ?_
  refine W_size (fun hz1 hz2 => ?_)
  refine vx_ret ?_
  have hz1400 : SmW B B1359 cs := (fun x9 hx9 => ⟨hsw1391 x9 hx9, hsw1392 x9 hx9, hsw1393 x9 hx9, hsw1394 x9 hx9⟩)
  have hz1401 : BdE K K1358 := hbe1388
  have hz1402 : BeF K K1358 := hbf1395
  have hz1403 : BeL K K1358 none := hbl1397
  have hz1404 : BeI K K1358 g q := hbi1398
  have hz1405 : Bth B B1359 := (show Thx (upd (upd (upd (upd (upd F 2 (nI sz)) 5 (nI cs)) 7 (nI hd)) 12 (nI vr)) 13 as9) (upd (upd (upd (upd (upd (upd (upd (upd (upd F 2 (nI sz)) 5 (nI cs)) 7 (nI hd)) 12 (nI vr)) 13 as9) 5 (nI cs1360)) 13 as1361) 14 as1361) 15 as1361) B B1359 from (Thx.f (Thx.f (Thx.f (Thx.f (Bth.thx hbb1389) (by omega)) (by omega)) (by omega)) (by omega))).2
  have hz1406 : BeR B B1359 := hbr1396
  have hz1407 : t1364 < 128 := (by omega)
  have hz1408 : cs ≤ cs1360 ∧ cs1360 + 0 ≤ cs + 2 * tlE g q := (by omega)
  have hz1409 : AsE as9 as1361 ∧ AsE as9 as1361 ∧ AsE as9 as1361 := ⟨has1399, has1399, has1399⟩
  have hz1410 : okA → VaQ pb B B1359 Ag Ag1365 pd m9 sn lo cs cs1360 as9 as1361 as1361 as1361 hd sl os t1364 t1364 (K.2.1 0 q) := (fun z => PlQ.va (h1376 z) h1373)
  have hz1411 : CaK (K.2.1 0 q) → cs1360 + 2 ≤ cs + 2 * tlE g q := (fun z9 => absurd z9 (fun e9 => by rw [hkd] at e9; rcases e9 with e9 | e9; exact h553 e9; exact h613 e9))
  have hO : OKP G h0 a (upd (upd (upd (upd (upd (upd (upd F 2 (nI sz)) 5 (nI cs1360)) 7 (nI hd)) 12 (nI vr)) 13 as1361) 14 as1361) 15 as1361) (updR (updR R 2 (.ref pq)) 3 (.ref mq)) Z B1359 J K1358 w := hO.to rfl
  refine W.widen (k := 1) (n := 6) (by omega) (by omega) ?_
  have hzz1 : H.size ≤ s.heap.size + (0) := (by have z : 0 ≤ 0 := (by omega); omega)
  have hzz2 : hSl H ≤ hSl s.heap + (0) := (by have z : 0 ≤ 0 := (by omega); omega)
  exact W.iret (v := (nI t1364)) hx hb hr (fun t99 ht99 hW99 => ⟨⟨_, (w, (K1358, B1359, cs1360, as1361, as1361, as1361, t1364, Ag1365, t1364)), rfl, ⟨rfl, hz1400, hz1401, hz1402, hz1403, hz1404, hz1405, hz1406, hz1407, hz1408, hz1409, hz1410, hz1411, hO⟩, by rw [ht99]; exact hP, hD, by rw [ht99]; exact hzz1, by rw [ht99]; exact hzz2⟩, hS.F ht99⟩) hS.2.2 dX0_value_315
theorem PY_step (l : Launch) (G : pT) (n : Nat) (ih : IhY l G n) : PYa l G n := fun h0 a F R Z B J K w pq dr ml nd nm cp it s9 q mq cs vr sz g rk pb Ag pd sl os m9 sn lo hd c0 as9 okA hsz hwp hps hrk hcs hvr hng hmq hqT hqL hek hcO hna hen hem hrm hop hlf hO hl0 => Y_value0 l G h0 a F R Z B J K w pq dr ml nd nm cp it s9 q mq cs vr sz n g rk pb Ag pd sl os m9 sn lo hd c0 as9 okA hsz hwp hps hrk hcs hvr hng hmq hqT hqL hek hcO hna hen hem hrm hop hlf ih hO hl0
theorem PY_all (l : Launch) (G : pT) : ∀ n : Nat, PYa l G n
  | 0 => PY_step l G 0 (fun h => absurd h (by decide))
  | n + 1 => PY_step l G (n + 1) (fun _ => PY_all l G n)
theorem IhY.all (l : Launch) (G : pT) (n : Nat) : IhY l G n := fun _ => PY_all l G (n - 1)

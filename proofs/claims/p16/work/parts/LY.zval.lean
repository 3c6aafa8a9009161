theorem BeR.up {B B1 : Nat → Nat → Int32} {k : Nat} {f : Nat → Int32} (h : BeR B B1) (hk : 16 ≤ k ∧ k ≤ 19) : BeR B (updA B1 k f) := fun i hi => by
  rw [show updA B1 k f i = B1 i from if_neg (fun z => hi (by rw [z]; exact hk))]
  exact h i hi
def PYa (l : Launch) (G : pT) (n : Nat) : Prop := ∀ (h0 : Nat) (a : Nat → Nat) (F : Nat → Int32) (R : Nat → Value) (Z : Int64) (B : Nat → Nat → Int32) (J : Nat → Nat → Int64) (K : PK) (w : va_W) (pq : Nat) (dr : Nat) (ml : Nat) (nd : Nat) (nm : Nat) (cp : Nat) (it : Nat → Nat) (s9 : Nat) (q : Nat) (mq : Nat) (cs : Nat) (vr : Nat) (sz : Nat) (g : Nat → Nat → Nat) (rk : Nat → Nat) (pb : PNb) (Ag : Nat → AS) (pd : Nat → Prop) (sl : Nat → Nat) (os : List Nat) (m9 : Nat) (sn : Nat) (lo : Nat) (hd : Nat) (c0 : Nat) (as9 : Int32) (okA : Prop), (sz ≤ 5000) → (WPr G K g) → (PgT G K g (a 1) pq dr ml nd nm cp it s9) → (RkO K rk) → (cs ≤ 10000) → (vr ≤ 30) → (Nng (B 18)) → (K.1 mq = 3) → (K.1 q = 1) → (1 ≤ g 0 q ∧ g 0 q ≤ n) → (EkA pb K g (B 7) (B 11) sz) → (OwC K dr mq c0) → (NaB pb G K (B 11) dr nd sz) → (EnV (B 26) (B 27) nd vr hd c0 sl) → (okA → EmB pb B Ag pd m9 sn lo cs as9 hd sl os) → (cs + 2 * tlE g q ≤ 10000) → (os.length + ndE g q ≤ 248) → (1 ≤ tlE g q ∧ 1 ≤ ndE g q) → (OKP G h0 a (upd (upd (upd (upd (upd F 2 (nI sz)) 5 (nI cs)) 7 (nI hd)) 12 (nI vr)) 13 as9) (updR (updR R 2 (.ref pq)) 3 (.ref mq)) Z B J K w) → (l.stackTraces = false) → PBn l G pX0 yX0_value cX0_value 3 (some .int) ({ frames := (5 * n + 34), cells := 1, slots := 6, locals := (200 * n + 600) }) [.ref (a 4), .ref q] w (fun (v : Option Value) (u : va_W × (PK × (Nat → Nat → Int32) × Nat × Int32 × Int32 × Int32 × Nat × (Nat → AS) × Nat)) => v = some (.int (nI u.2.2.2.2.2.2.2.1)) ∧ (SmW B u.2.2.1 cs) ∧ (BdE K u.2.1) ∧ (BeF K u.2.1) ∧ (BeL K u.2.1 none) ∧ (BeI K u.2.1 g q) ∧ (Bth B u.2.2.1) ∧ (BeR B u.2.2.1) ∧ (u.2.2.2.2.2.2.2.1 < 128) ∧ (cs ≤ u.2.2.2.1 ∧ u.2.2.2.1 + 0 ≤ cs + 2 * tlE g q) ∧ (AsE as9 u.2.2.2.2.1 ∧ AsE as9 u.2.2.2.2.2.1 ∧ AsE as9 u.2.2.2.2.2.2.1) ∧ (okA → VaQ pb B u.2.2.1 Ag u.2.2.2.2.2.2.2.2.1 pd m9 sn lo cs u.2.2.2.1 as9 u.2.2.2.2.1 u.2.2.2.2.2.1 u.2.2.2.2.2.2.1 hd sl os u.2.2.2.2.2.2.2.1 u.2.2.2.2.2.2.2.2.2 (K.2.1 0 q)) ∧ (CaK (K.2.1 0 q) → u.2.2.2.1 + 2 ≤ cs + 2 * tlE g q) ∧ (OKP G h0 a (upd (upd (upd (upd (upd (upd (upd F 2 (nI sz)) 5 (nI u.2.2.2.1)) 7 (nI hd)) 12 (nI vr)) 13 u.2.2.2.2.1) 14 u.2.2.2.2.2.1) 15 u.2.2.2.2.2.2.1) (updR (updR R 2 (.ref pq)) 3 (.ref mq)) Z u.2.2.1 J u.2.1 u.1)) (fun u => u.1) (fun (u : va_W × (PK × (Nat → Nat → Int32) × Nat × Int32 × Int32 × Int32 × Nat × (Nat → AS) × Nat)) => 0) (fun (u : va_W × (PK × (Nat → Nat → Int32) × Nat × Int32 × Int32 × Int32 × Nat × (Nat → AS) × Nat)) => 0) (fun (u : va_W × (Nat → Int32) × (Nat → Value) × (Nat → Nat → Int32)) => ThQ G h0 a (upd (upd (upd (upd (upd F 2 (nI sz)) 5 (nI cs)) 7 (nI hd)) 12 (nI vr)) 13 as9) (updR (updR R 2 (.ref pq)) 3 (.ref mq)) Z B J u) (fun u => u.1)
def IhY (l : Launch) (G : pT) (n : Nat) : Prop := 1 ≤ n → PYa l G (n - 1)
set_option maxHeartbeats 24000000 in
set_option maxRecDepth 100000 in
theorem Y_prefixE (l : Launch) (G : pT) (h0 : Nat) (a : Nat → Nat) (F : Nat → Int32) (R : Nat → Value) (Z : Int64) (B : Nat → Nat → Int32) (J : Nat → Nat → Int64) (K : PK) (w : va_W) (pq : Nat) (dr : Nat) (ml : Nat) (nd : Nat) (nm : Nat) (cp : Nat) (it : Nat → Nat) (s9 : Nat) (q : Nat) (mq : Nat) (cs : Nat) (vr : Nat) (sz : Nat) (n : Nat) (q1 : Nat) (g : Nat → Nat → Nat) (rk : Nat → Nat) (pb : PNb) (Ag : Nat → AS) (pd : Nat → Prop) (sl : Nat → Nat) (os : List Nat) (m9 : Nat) (sn : Nat) (lo : Nat) (hd : Nat) (c0 : Nat) (as9 : Int32) (okA : Prop) (hsz : sz ≤ 5000) (hwp : WPr G K g) (hps : PgT G K g (a 1) pq dr ml nd nm cp it s9) (hrk : RkO K rk) (hcs : cs ≤ 10000) (hvr : vr ≤ 30) (hng : Nng (B 18)) (hmq : K.1 mq = 3) (hqT : K.1 q = 1) (hqL : 1 ≤ g 0 q ∧ g 0 q ≤ n) (hek : EkA pb K g (B 7) (B 11) sz) (hcO : OwC K dr mq c0) (hna : NaB pb G K (B 11) dr nd sz) (hen : EnV (B 26) (B 27) nd vr hd c0 sl) (hem : okA → EmB pb B Ag pd m9 sn lo cs as9 hd sl os) (hrm : cs + 2 * tlE g q ≤ 10000) (hop : os.length + ndE g q ≤ 248) (hlf : 1 ≤ tlE g q ∧ 1 ≤ ndE g q) (hc0 : K.2.2.1 0 q = some q1) (ht0 : K.1 q1 = 1) (hv0 : 1 ≤ g 0 q1 ∧ g 0 q1 + 1 ≤ n) (hlf0 : 1 ≤ tlE g q1 ∧ 1 ≤ ndE g q1) (hin0 : InE g q q1) (htl : tlE g q1 + 1 ≤ tlE g q) (hnd0 : ndE g q1 ≤ ndE g q) (hpk : PfK (tkN (B 7) sz 67 (K.2.1 1 q))) (ihv : IhY l G n) (hO : OKP G h0 a (upd (upd (upd (upd (upd F 2 (nI sz)) 5 (nI cs)) 7 (nI hd)) 12 (nI vr)) 13 as9) (updR (updR R 2 (.ref pq)) 3 (.ref mq)) Z B J K w) (hl0 : l.stackTraces = false) : PBn l G pX0 yX0_prefix cX0_prefix 2 (some .int) ({ frames := (5 * n + 33), cells := 1, slots := 6, locals := (200 * n + 560) }) [.ref (a 4), .ref q] w (fun (v : Option Value) (u : va_W × (PK × (Nat → Nat → Int32) × Nat × Int32 × Int32 × Int32 × Nat × (Nat → AS))) => v = some (.int (nI u.2.2.2.2.2.2.2.1)) ∧ (SmW B u.2.2.1 cs) ∧ (BdE K u.2.1) ∧ (BeF K u.2.1) ∧ (BeL K u.2.1 none) ∧ (BeI K u.2.1 g q) ∧ (Bth B u.2.2.1) ∧ (BeR B u.2.2.1) ∧ (u.2.2.2.2.2.2.2.1 < 128) ∧ (cs ≤ u.2.2.2.1 ∧ u.2.2.2.1 + 0 ≤ cs + 2 * tlE g q) ∧ (AsE as9 u.2.2.2.2.1) ∧ (okA → PlQ pb B u.2.2.1 Ag u.2.2.2.2.2.2.2.2 pd m9 sn lo cs u.2.2.2.1 as9 u.2.2.2.2.1 hd sl os u.2.2.2.2.2.2.2.1 (K.2.1 0 q)) ∧ (OKP G h0 a (upd (upd (upd (upd (upd (upd (upd F 2 (nI sz)) 5 (nI u.2.2.2.1)) 7 (nI hd)) 12 (nI vr)) 13 u.2.2.2.2.1) 14 u.2.2.2.2.2.1) 15 u.2.2.2.2.2.2.1) (updR (updR R 2 (.ref pq)) 3 (.ref mq)) Z u.2.2.1 J u.2.1 u.1)) (fun u => u.1) (fun (u : va_W × (PK × (Nat → Nat → Int32) × Nat × Int32 × Int32 × Int32 × Nat × (Nat → AS))) => 0) (fun (u : va_W × (PK × (Nat → Nat → Int32) × Nat × Int32 × Int32 × Int32 × Nat × (Nat → AS))) => 0) (fun (u : va_W × (Nat → Int32) × (Nat → Value) × (Nat → Nat → Int32)) => ThQ G h0 a (upd (upd (upd (upd (upd F 2 (nI sz)) 5 (nI cs)) 7 (nI hd)) 12 (nI vr)) 13 as9) (updR (updR R 2 (.ref pq)) 3 (.ref mq)) Z B J u) (fun u => u.1) := by
  intro sz
  refine vx_ofW (cc := cX0_prefix) (maxL := 2) (ret := (some .int)) (by decide) rfl ?_
  intro p e s m args below meth c s₁ B9 hml hnt hv
  obtain ⟨rfl, hsz, hP, hD0, hE, hX⟩ := hv
  have hx := B9.exec
  have hb := B9.bytes
  have hr := B9.returns
  have hts := atoms_spec (ws := Cond.code yX0_prefix cX0_prefix 2 (some .int) :: pw) B9.pre
  have hq : ∀ w ∈ pw, w.before _ s = true := fun w h => hts w (List.mem_cons_of_mem _ h)
  have hown : s.vm.findClass RX0 = some m.cls := findClass_of_methodNamed B9.named
  have hlocks := B9.notSynchronized
  subst hsz
  have hD := hD0.self (sz := s.heap.size)
  have hA : ∀ q : Nat, s.heap.size ≤ q → va_A w s.heap.size q := fun q h => Or.inr h
  generalize va_A w s.heap.size = A at hD hE hA ⊢
  have hS : va_S A s.heap s.heap [] := va_S.rf
  have hl := lv_entry ([.ref (a 4), .ref q]) (n := 2) (Nat.le_of_ble_eq_true rfl)
  rw [lg_entry_eq]
  generalize (lg_sl ([.ref (a 4), .ref q]) ++ List.replicate (2 - (lg_sl ([.ref (a 4), .ref q])).length) Slot.unset).toArray = ls at hl ⊢
  have hl : lv_has ls 2 [(0, .ref (a 4)), (1, .ref q)] := hl
  have hpg := hps.1
  have hp1 := hpg.1
  have hp2 := hpg.2.1
  have hp3 := hpg.2.2.1
  have hp4 := hpg.2.2.2.1
  have hp5 := hpg.2.2.2.2.1
  have hp6 := hpg.2.2.2.2.2.1
  have hp8 := hpg.2.2.2.2.2.2.2.1
  have hp9 := hpg.2.2.2.2.2.2.2.2
  have hdr0 : ¬ K.1 dr = 0 := by rw [hp4]; decide
  have hev0 : okA → EvQ pb.1 pb.2.1 pb.2.2.1 pb.2.2.2 (B 16) (B 17) (B 18) (B 19) (B 16) (B 17) (B 18) (B 19) Ag Ag pd m9 sn lo cs cs as9 as9 hd sl os := fun z => EvB.nil (hem z)
  obtain ⟨tk, htk⟩ : ∃ z : Int32, K.2.1 1 q = z := ⟨_, rfl⟩
  refine lv_aload_n hx hb dX0_prefix_0 rfl (lv_at hl 0 rfl) ?_
  refine lv_aload_n hx hb dX0_prefix_1 rfl (lv_at hl 1 rfl) ?_
  refine p_get (v := .ref q1) (C := RX7) (Tc := TX7) (N := 11) (ci := 13) hx hb hq pin_wsX70 hown hE hP hO (by rw [hqT]; decide) (rep_1 hqT) rfl 6 (by decide) (hq _ pw_180) (fun _ h9 => h9) (congrArg (fun z => some (va_rf z)) hc0) dX0_prefix_2 ?_
  refine lv_aload_n hx hb dX0_prefix_5 rfl (lv_at hl 0 rfl) ?_
  refine lv_aload_n hx hb dX0_prefix_6 rfl (lv_at hl 1 rfl) ?_
  refine p_get (v := .ref q1) (C := RX7) (Tc := TX7) (N := 11) (ci := 13) hx hb hq pin_wsX70 hown hE hP hO (by rw [hqT]; decide) (rep_1 hqT) rfl 6 (by decide) (hq _ pw_180) (fun _ h9 => h9) (congrArg (fun z => some (va_rf z)) hc0) dX0_prefix_7 ?_
  have hO : OKP G h0 a (upd (upd (upd (upd (upd (upd (upd (upd (upd (upd F 2 (nI sz)) 5 (nI cs)) 7 (nI hd)) 12 (nI vr)) 13 as9) 2 (nI sz)) 5 (nI cs)) 7 (nI hd)) 12 (nI vr)) 13 as9) (updR (updR (updR (updR R 2 (.ref pq)) 3 (.ref mq)) 2 (.ref pq)) 3 (.ref mq)) Z B J K w := hO.to rfl
  obtain ⟨_, qr4, hqr5⟩ := hO.2.1 24 _ (sg_24 G h0 a _ _ _ _ _)
  refine pn_V0 (G := G) (As := [.ref q1]) (rest := [.ref q1, .ref (a 4)]) hx hb hml hown hq hE hX pX0_al hP hD hS hA hl.1 ((ihv (by omega)) h0 a (upd (upd (upd (upd (upd F 2 (nI sz)) 5 (nI cs)) 7 (nI hd)) 12 (nI vr)) 13 as9) (updR (updR R 2 (.ref pq)) 3 (.ref mq)) Z B J K w pq dr ml nd nm cp it s9 q1 mq cs vr sz g rk pb Ag pd sl os m9 sn lo hd c0 as9 okA (by omega) (BdE.wp BdE.rfl hwp) (BdE.pt BdE.rfl hwp hps) (BdE.rko BdE.rfl hrk) (by omega) (by omega) hng hmq ht0 ⟨hv0.1, (by have z9 := hv0; omega)⟩ (EkA.be BdE.rfl (BeR.rfl 7 (by decide)) (BeR.rfl 11 (by decide)) hek) (OwC.be BdE.rfl hmq hdr0 hcO) (NaB.be BdE.rfl BeF.rfl hwp hps.2.1 hdr0 (BeR.rfl 11 (by decide)) hna) (EnV.of (BeR.rfl 26 (by decide)) (BeR.rfl 27 (by decide)) hen) (fun z => (hev0 z).1) (by omega) (by show os.length + ndE g q1 ≤ 248; omega) hlf0 hO hl0) (gV pw_173 pw_174 pw_175 pw_63 pw_224) hV_X0_value qr4 0 hqr5 rfl rfl rfl (Nat.le_of_ble_eq_true rfl) dX0_prefix_10 ⟨(by show 0 + 1 ≤ 1; omega), (by show 0 + 6 ≤ 6; omega)⟩ ⟨(by show (5 * (n - 1) + 34) + 1 ≤ (5 * n + 33); omega), (by show 8 + (3 + 11) + (200 * (n - 1) + 600) ≤ (200 * n + 560); omega)⟩ (fun v3 u1 H locs hw2 hP hD hS => ?_) (fun ux ce9 q9 H9 locs9 hux hP9 hD9 hS9 hce hcv hcl => pb_out ux (ThQ.up (Thx.same (Thx.same (Thx.same (Thx.same (Thx.same Thx.rfl rfl) rfl) rfl) rfl) rfl) (show RhX (updR (updR R 2 (.ref pq)) 3 (.ref mq)) (updR (updR (updR (updR R 2 (.ref pq)) 3 (.ref mq)) 2 (.ref pq)) 3 (.ref mq)) from fun k9 hk9 => by unfold updR; simp only [show ¬ k9 = 1 by omega, show ¬ k9 = 2 by omega, show ¬ k9 = 3 by omega, show ¬ k9 = 4 by omega, if_false]) hux) hnt hlocks hce hcv hcl hP9 hD9 hS9 (by show 0 + 1 ≤ 1; omega) (by show 0 + 6 ≤ 6; omega))
  obtain ⟨w, K6, B7, cs8, as10, wt11, wf12, t13, Ag14, u15⟩ := u1
  obtain ⟨hw2, h16, h17, h18, h19, h20, h21, h22, h23, h24, h25, h26, h27, hO⟩ := hw2
  have h16 : SmW B B7 cs := h16
  have h17 : BdE K K6 := h17
  have h18 : BeF K K6 := h18
  have h19 : BeL K K6 none := h19
  have h20 : BeI K K6 g q1 := h20
  have h21 : Bth B B7 := h21
  have h22 : BeR B B7 := h22
  have h23 : t13 < 128 := h23
  have h24 : cs ≤ cs8 ∧ cs8 + 0 ≤ cs + 2 * tlE g q1 := h24
  have h25 : AsE as9 as10 ∧ AsE as9 wt11 ∧ AsE as9 wf12 := h25
  have h26 : okA → VaQ pb B B7 Ag Ag14 pd m9 sn lo cs cs8 as9 as10 wt11 wf12 hd sl os t13 u15 (K.2.1 0 q1) := h26
  have h27 : CaK (K.2.1 0 q1) → cs8 + 2 ≤ cs + 2 * tlE g q1 := h27
  obtain rfl : v3 = some (.int (nI t13)) := hw2
  have hf28 : K6.1 pq = 7 := (BdE.T h17 hp1 (by decide))
  have hf29 : K6.2.2.1 18 pq = some (a 1) := (BdE.C h17 (by rw [hp1]; decide) 18).trans hp2
  have hf30 : K6.2.2.1 14 pq = some dr := (BdE.C h17 (by rw [hp1]; decide) 14).trans hp3
  have hf31 : K6.1 dr = 8 := (BdE.T h17 hp4 (by decide))
  have hf32 : K6.2.2.1 15 pq = some ml := (BdE.C h17 (by rw [hp1]; decide) 15).trans hp5
  have hf33 : K6.1 ml = 5 := (BdE.T h17 hp6 (by decide))
  have hf34 : K6.2.1 24 pq = (nI nd) := (BdE.I h17 (by rw [hp1]; decide) (by decide) (by decide)).trans hp8
  have hf35 : K6.1 q = 1 := (BdE.T h17 hqT (by decide))
  have hf36 : K6.1 mq = 3 := (BdE.T h17 hmq (by decide))
  have hf37 : K6.2.2.1 0 q = some q1 := (BdE.C h17 (by rw [hqT]; decide) 0).trans hc0
  have hf38 : K6.1 q1 = 1 := (BdE.T h17 ht0 (by decide))
  have hf39 : K6.2.1 1 q = tk := (BdE.I h17 (by rw [hqT]; decide) (by decide) (by decide)).trans htk
  have hO : OKP G h0 a (upd (upd (upd (upd (upd (upd (upd F 2 (nI sz)) 5 (nI cs8)) 7 (nI hd)) 12 (nI vr)) 13 as10) 14 wt11) 15 wf12) (updR (updR R 2 (.ref pq)) 3 (.ref mq)) Z B7 J K6 w := hO.to rfl
  refine W.widen (k := 0) (n := 0) (by show 0 + 0 ≤ 0; omega) (by show 0 + 0 ≤ 0; omega) ?_
  refine W.eq (g2 := F0 m 13 ls [.int (nI t13), .ref q1, .ref (a 4)]) rfl ?_
  have hbe40 := BdE.trans BdE.rfl h17
  have hbb41 : Bth B B7 := Bth.trans (show Thx (upd (upd (upd (upd (upd F 2 (nI sz)) 5 (nI cs)) 7 (nI hd)) 12 (nI vr)) 13 as9) (upd (upd (upd (upd (upd F 2 (nI sz)) 5 (nI cs)) 7 (nI hd)) 12 (nI vr)) 13 as9) B B from Thx.rfl).2 h21
  have hng42 : Nng (B7 18) := h21.2 hng
  have hsw43 : ∀ x9 : Nat, x9 < cs → (B7 16) x9 = B 16 x9 := fun x9 hx9 => ((h16 x9 (by omega)).1).trans ((fun _ _ => rfl) x9 hx9)
  have hsw44 : ∀ x9 : Nat, x9 < cs → (B7 17) x9 = B 17 x9 := fun x9 hx9 => ((h16 x9 (by omega)).2.1).trans ((fun _ _ => rfl) x9 hx9)
  have hsw45 : ∀ x9 : Nat, x9 < cs → (B7 18) x9 = B 18 x9 := fun x9 hx9 => ((h16 x9 (by omega)).2.2.1).trans ((fun _ _ => rfl) x9 hx9)
  have hsw46 : ∀ x9 : Nat, x9 < cs → (B7 19) x9 = B 19 x9 := fun x9 hx9 => ((h16 x9 (by omega)).2.2.2).trans ((fun _ _ => rfl) x9 hx9)
  have hbf47 := BeF.trans BeF.rfl h18 BdE.rfl
  have hbl50 := BeL.trans BeL.rfl h19 BdE.rfl
  have hbi51 := BeI.trans BeI.rfl h20 BdE.rfl hin0
  have hbr48 : BeR B B7 := BeR.trans BeR.rfl h22
  have hpt49 : (okA ∧ ¬ t13 = 63) → EvQ pb.1 pb.2.1 pb.2.2.1 pb.2.2.2 (B 16) (B 17) (B 18) (B 19) (B7 16) (B7 17) (B7 18) (B7 19) Ag Ag14 pd m9 sn lo cs cs8 as9 as10 hd sl (u15 :: os) ∧ UTb u15 (nI t13) as10 wt11 wf12 := fun z => VaQ.part (B1 := B) (hev0 z.1) (h26 z.1) h23 z.2
  have hev52 := fun z => (hpt49 z).1
  have has53 : AsE as9 as10 ∧ AsE as9 wt11 ∧ AsE as9 wf12 := ⟨AsE.trans AsE.rfl h25.1, AsE.trans AsE.rfl h25.2.1, AsE.trans AsE.rfl h25.2.2⟩
  refine lv_bipush (v := 60) hx hb dX0_prefix_13 (by decide) ?_
  have hO : OKP G h0 a (upd (upd (upd (upd (upd (upd (upd (upd (upd (upd F 2 (nI sz)) 5 (nI cs)) 7 (nI hd)) 12 (nI vr)) 13 as9) 5 (nI cs8)) 13 as10) 14 wt11) 15 wf12) 2 (nI sz)) (updR (updR (updR R 2 (.ref pq)) 3 (.ref mq)) 2 (.ref pq)) Z B7 J K6 w := hO.to rfl
  obtain ⟨_, qr57, hqr58⟩ := hO.2.1 24 _ (sg_24 G h0 a _ _ _ _ _)
  refine pn_V0 (G := G) (As := [.ref q1, .int (nI t13), .int (nI 60)]) (rest := []) hx hb hml hown hq hE hX pX0_al hP hD hS hA hl.1 (Y_fit l G h0 a (upd (upd (upd (upd (upd (upd (upd (upd (upd F 2 (nI sz)) 5 (nI cs)) 7 (nI hd)) 12 (nI vr)) 13 as9) 5 (nI cs8)) 13 as10) 14 wt11) 15 wf12) (updR (updR R 2 (.ref pq)) 3 (.ref mq)) Z B7 J K6 w pq dr ml nd q1 sz t13 60 g pb (by omega) (BdE.pt hbe40 hwp hps).1 (BdE.pt hbe40 hwp hps).2.1 hf38 (by omega) hna.1.1 (NaB.be hbe40 hbf47 hwp hps.2.1 hdr0 (hbr48 11 (by decide)) hna).1.2.2 hO hl0) (gV pw_176 pw_177 pw_178 pw_63 pw_114) hV_X0_fit qr57 0 hqr58 rfl rfl rfl (Nat.le_of_ble_eq_true rfl) dX0_prefix_15 ⟨(by show 0 + 1 ≤ 1; omega), (by show 0 + 6 ≤ 6; omega)⟩ ⟨(by show 7 + 1 ≤ (5 * n + 33); omega), (by show 8 + (4 + 11) + 122 ≤ (200 * n + 560); omega)⟩ (fun v56 u54 H locs hw55 hP hD hS => ?_) (fun ux ce9 q9 H9 locs9 hux hP9 hD9 hS9 hce hcv hcl => pb_out ux (ThQ.up (Thx.same (Thx.f (Thx.f (Thx.f (Thx.f (Bth.thx hbb41) (by omega)) (by omega)) (by omega)) (by omega)) rfl) (show RhX (updR (updR R 2 (.ref pq)) 3 (.ref mq)) (updR (updR (updR R 2 (.ref pq)) 3 (.ref mq)) 2 (.ref pq)) from fun k9 hk9 => by unfold updR; simp only [show ¬ k9 = 1 by omega, show ¬ k9 = 2 by omega, show ¬ k9 = 3 by omega, show ¬ k9 = 4 by omega, if_false]) hux) hnt hlocks hce hcv hcl hP9 hD9 hS9 (by show 0 + 1 ≤ 1; omega) (by show 0 + 6 ≤ 6; omega))
  obtain ⟨w, _⟩ := u54
  obtain ⟨hw55, h59, hO⟩ := hw55
  have h59 : FtQ pb t13 60 := h59
  obtain rfl : v56 = none := hw55
  have hO : OKP G h0 a (upd (upd (upd (upd (upd (upd (upd F 2 (nI sz)) 5 (nI cs8)) 7 (nI hd)) 12 (nI vr)) 13 as10) 14 wt11) 15 wf12) (updR (updR R 2 (.ref pq)) 3 (.ref mq)) Z B7 J K6 w := hO.to rfl
  refine W.widen (k := 0) (n := 0) (by show 0 + 0 ≤ 0; omega) (by show 0 + 0 ≤ 0; omega) ?_
  refine W.eq (g2 := F0 m 18 ls []) rfl ?_
  refine lv_aload_n hx hb dX0_prefix_18 rfl (lv_at hl 0 rfl) ?_
  refine lv_bipush (v := 11) hx hb dX0_prefix_19 (by decide) ?_
  refine lv_aload_n hx hb dX0_prefix_21 rfl (lv_at hl 0 rfl) ?_
  refine c_get (v := .ref (a 1)) (C := RX0) (Tc := TX0) (N := 13) (ci := 0) hx hb hq pin_wsX00 hown hE hP hO 24 (sg_24 G h0 a _ _ _ _ _) rfl 0 (by decide) (hq _ pw_4) (fun _ h9 => h9) rfl dX0_prefix_22 ?_
  refine lv_aload_n hx hb dX0_prefix_25 rfl (lv_at hl 1 rfl) ?_
  refine p_get (v := .int tk) (C := RX7) (Tc := TX7) (N := 11) (ci := 13) hx hb hq pin_wsX70 hown hE hP hO (by rw [hf35]; decide) (rep_1 hf35) rfl 1 (by decide) (hq _ pw_81) (fun _ h9 => h9) (congrArg (fun z => some (Value.int z)) hf39) dX0_prefix_26 ?_
  have hO : OKW G h0 a (upd (upd (upd (upd (upd (upd (upd (upd F 2 (nI sz)) 5 (nI cs8)) 7 (nI hd)) 12 (nI vr)) 13 as10) 14 wt11) 15 wf12) 2 (nI sz)) (updR (updR R 2 (.ref pq)) 3 (.ref mq)) Z B7 J K6.1 (fun q99 x99 => x99 = rep G a K6 q99) w := hO.to rfl
  obtain ⟨_, qr63, hqr64⟩ := hO.2.1 2 _ (sg_2 G h0 a _ _ _ _ _)
  refine pc_V0 (G := G) (As := [.int tk]) (rest := [.int 11, .ref (a 4)]) hx hb hml hown hq hE hX pX0_al hP hD hS hA hl.1 (Y_kindAt l G h0 a (upd (upd (upd (upd (upd (upd (upd F 2 (nI sz)) 5 (nI cs8)) 7 (nI hd)) 12 (nI vr)) 13 as10) 14 wt11) 15 wf12) (updR (updR R 2 (.ref pq)) 3 (.ref mq)) Z B7 J K6.1 (fun q99 x99 => x99 = rep G a K6 q99) w tk sz (by omega) hO) (gV pw_192 pw_193 pw_194 pw_59 pw_126) hV_X10_kindAt qr63 7 hqr64 rfl rfl rfl (Nat.le_of_ble_eq_true rfl) dX0_prefix_29 ⟨(by show 0 + 0 ≤ 1; omega), (by show 0 + 0 ≤ 6; omega)⟩ ⟨(by show 2 + 1 ≤ (5 * n + 33); omega), (by show 8 + (2 + 11) + 60 ≤ (200 * n + 560); omega)⟩ (fun v62 u60 H locs hw61 hP hD hS => ?_)
  obtain ⟨w, _⟩ := u60
  obtain ⟨hw61, hO⟩ := hw61
  obtain rfl : v62 = some (.int (tkN ((B7 7)) sz 67 tk)) := hw61
  have hO : OKP G h0 a (upd (upd (upd (upd (upd (upd (upd F 2 (nI sz)) 5 (nI cs8)) 7 (nI hd)) 12 (nI vr)) 13 as10) 14 wt11) 15 wf12) (updR (updR R 2 (.ref pq)) 3 (.ref mq)) Z B7 J K6 w := hO.to rfl
  refine W.widen (k := 0) (n := 0) (Nat.le_of_ble_eq_true rfl) (Nat.le_of_ble_eq_true rfl) ?_
  refine W.eq (g2 := F0 m 32 ls [.int (tkN ((B7 7)) sz 67 tk), .int 11, .ref (a 4)]) rfl ?_
  refine lv_bipush (v := 60) hx hb dX0_prefix_32 (by decide) ?_
  have hut65 := fun z : okA => (hpt49 ⟨z, h59.1⟩).2
  have hev66 := fun z : okA => hev52 ⟨z, h59.1⟩
  have hO : OKW G h0 a (upd (upd (upd (upd (upd (upd (upd (upd (upd F 2 (nI sz)) 5 (nI cs8)) 7 (nI hd)) 12 (nI vr)) 13 as10) 14 wt11) 15 wf12) 5 (nI cs8)) 7 (nI hd)) (updR (updR R 2 (.ref pq)) 3 (.ref mq)) Z B7 J K6.1 (fun q99 x99 => x99 = rep G a K6 q99) w := hO.to rfl
  obtain ⟨_, qr70, hqr71⟩ := hO.2.1 24 _ (sg_24 G h0 a _ _ _ _ _)
  refine pc_V0 (G := G) (As := [.int 11, .int (tkN ((B7 7)) sz 67 tk), .int 60]) (rest := []) hx hb hml hown hq hE hX pX0_al hP hD hS hA hl.1 (Y_give l G h0 a (upd (upd (upd (upd (upd (upd (upd F 2 (nI sz)) 5 (nI cs8)) 7 (nI hd)) 12 (nI vr)) 13 as10) 14 wt11) 15 wf12) (updR (updR R 2 (.ref pq)) 3 (.ref mq)) Z B7 J K6.1 (fun q99 x99 => x99 = rep G a K6 q99) w 11 (tkN ((B7 7)) sz 67 tk) 60 cs8 hd (by omega) hO) (gV pw_158 pw_159 pw_160 pw_63 pw_128) hV_X0_give qr70 0 hqr71 rfl rfl rfl (Nat.le_of_ble_eq_true rfl) dX0_prefix_34 ⟨(by show 0 + 0 ≤ 1; omega), (by show 0 + 0 ≤ 6; omega)⟩ ⟨(by show 3 + 1 ≤ (5 * n + 33); omega), (by show 8 + (4 + 11) + 83 ≤ (200 * n + 560); omega)⟩ (fun v69 u67 H locs hw68 hP hD hS => ?_)
  obtain ⟨w, _⟩ := u67
  obtain ⟨hw68, hO⟩ := hw68
  obtain rfl : v69 = some (.int 60) := hw68
  have hO : OKP G h0 a (upd (upd (upd (upd (upd (upd (upd F 2 (nI sz)) 5 (nI (cs8 + 1))) 7 (nI hd)) 12 (nI vr)) 13 as10) 14 wt11) 15 wf12) (updR (updR R 2 (.ref pq)) 3 (.ref mq)) Z (updA (updA (updA (updA B7 16 (upd ((B7 16)) cs8 11)) 17 (upd ((B7 17)) cs8 (tkN ((B7 7)) sz 67 tk))) 18 (upd ((B7 18)) cs8 0)) 19 (upd ((B7 19)) cs8 (nI hd))) J K6 w := hO.to rfl
  refine W.widen (k := 0) (n := 0) (Nat.le_of_ble_eq_true rfl) (Nat.le_of_ble_eq_true rfl) ?_
  refine W.eq (g2 := F0 m 37 ls [.int 60]) rfl ?_
  have hsw72 : ∀ x9 : Nat, x9 < cs → (upd ((B7 16)) cs8 11) x9 = B 16 x9 := fun x9 hx9 => (if_neg (by omega)).trans (hsw43 x9 hx9)
  have hsw73 : ∀ x9 : Nat, x9 < cs → (upd ((B7 17)) cs8 (tkN ((B7 7)) sz 67 tk)) x9 = B 17 x9 := fun x9 hx9 => (if_neg (by omega)).trans (hsw44 x9 hx9)
  have hsw74 : ∀ x9 : Nat, x9 < cs → (upd ((B7 18)) cs8 0) x9 = B 18 x9 := fun x9 hx9 => (if_neg (by omega)).trans (hsw45 x9 hx9)
  have hsw75 : ∀ x9 : Nat, x9 < cs → (upd ((B7 19)) cs8 (nI hd)) x9 = B 19 x9 := fun x9 hx9 => (if_neg (by omega)).trans (hsw46 x9 hx9)
  obtain ⟨Ag76, hev77⟩ : ∃ A5 : Nat → AS, okA → EvQ pb.1 pb.2.1 pb.2.2.1 pb.2.2.2 (B 16) (B 17) (B 18) (B 19) (upd ((B7 16)) cs8 11) (upd ((B7 17)) cs8 (tkN ((B7 7)) sz 67 tk)) (upd ((B7 18)) cs8 0) (upd ((B7 19)) cs8 (nI hd)) Ag A5 pd m9 sn lo cs (cs8 + 1) as9 as10 hd sl (60 :: os) := ⟨(upS Ag14 (cs8 + 1) (rcA as10, hd, sl, (60 :: os))), fun z => (hev66 z).trans (EmS.pref (hev66 z).1 (by show os.length + 1 ≤ 248; omega) (PfT.int (by rw [hbr48 7 (by decide), ← htk]; exact hpk)))⟩
  have hng9 : Nng (upd ((B7 18)) cs8 0) := Nng.set hng42 (k := 0) (by omega)
  have hng78 := hng9
  refine W_size (fun hz1 hz2 => ?_)
  refine vx_ret ?_
  have hz79 : SmW B (updA (updA (updA (updA B7 16 (upd ((B7 16)) cs8 11)) 17 (upd ((B7 17)) cs8 (tkN ((B7 7)) sz 67 tk))) 18 (upd ((B7 18)) cs8 0)) 19 (upd ((B7 19)) cs8 (nI hd))) cs := (fun x9 hx9 => ⟨hsw72 x9 hx9, hsw73 x9 hx9, hsw74 x9 hx9, hsw75 x9 hx9⟩)
  have hz80 : BdE K K6 := hbe40
  have hz81 : BeF K K6 := hbf47
  have hz82 : BeL K K6 none := hbl50
  have hz83 : BeI K K6 g q := hbi51
  have hz84 : Bth B (updA (updA (updA (updA B7 16 (upd ((B7 16)) cs8 11)) 17 (upd ((B7 17)) cs8 (tkN ((B7 7)) sz 67 tk))) 18 (upd ((B7 18)) cs8 0)) 19 (upd ((B7 19)) cs8 (nI hd))) := (show Thx (upd (upd (upd (upd (upd F 2 (nI sz)) 5 (nI cs)) 7 (nI hd)) 12 (nI vr)) 13 as9) (upd (upd (upd (upd (upd (upd (upd (upd (upd F 2 (nI sz)) 5 (nI cs)) 7 (nI hd)) 12 (nI vr)) 13 as9) 5 (nI (cs8 + 1))) 13 as10) 14 wt11) 15 wf12) B (updA (updA (updA (updA B7 16 (upd ((B7 16)) cs8 11)) 17 (upd ((B7 17)) cs8 (tkN ((B7 7)) sz 67 tk))) 18 (upd ((B7 18)) cs8 0)) 19 (upd ((B7 19)) cs8 (nI hd))) from (Thx.b (Thx.b8 (Thx.b (Thx.b (Thx.f (Thx.f (Thx.f (Thx.f (Bth.thx hbb41) (by omega)) (by omega)) (by omega)) (by omega)) (by omega) (by decide)) (by omega) (by decide)) hng78) (by omega) (by decide))).2
  have hz85 : BeR B (updA (updA (updA (updA B7 16 (upd ((B7 16)) cs8 11)) 17 (upd ((B7 17)) cs8 (tkN ((B7 7)) sz 67 tk))) 18 (upd ((B7 18)) cs8 0)) 19 (upd ((B7 19)) cs8 (nI hd))) := (BeR.up (k := 19) (f := (upd ((B7 19)) cs8 (nI hd))) (BeR.up (k := 18) (f := (upd ((B7 18)) cs8 0)) (BeR.up (k := 17) (f := (upd ((B7 17)) cs8 (tkN ((B7 7)) sz 67 tk))) (BeR.up (k := 16) (f := (upd ((B7 16)) cs8 11)) hbr48 (by omega)) (by omega)) (by omega)) (by omega))
  have hz86 : 60 < 128 := (by omega)
  have hz87 : cs ≤ (cs8 + 1) ∧ (cs8 + 1) + 0 ≤ cs + 2 * tlE g q := (by omega)
  have hz88 : AsE as9 as10 := has53.1
  have hz89 : okA → PlQ pb B (updA (updA (updA (updA B7 16 (upd ((B7 16)) cs8 11)) 17 (upd ((B7 17)) cs8 (tkN ((B7 7)) sz 67 tk))) 18 (upd ((B7 18)) cs8 0)) 19 (upd ((B7 19)) cs8 (nI hd))) Ag Ag76 pd m9 sn lo cs (cs8 + 1) as9 as10 hd sl os 60 (K.2.1 0 q) := (fun z => Or.inr ⟨by rw [rsO_ne (by omega)]; exact hev77 z, by omega⟩)
  have hO : OKP G h0 a (upd (upd (upd (upd (upd (upd (upd F 2 (nI sz)) 5 (nI (cs8 + 1))) 7 (nI hd)) 12 (nI vr)) 13 as10) 14 wt11) 15 wf12) (updR (updR R 2 (.ref pq)) 3 (.ref mq)) Z (updA (updA (updA (updA B7 16 (upd ((B7 16)) cs8 11)) 17 (upd ((B7 17)) cs8 (tkN ((B7 7)) sz 67 tk))) 18 (upd ((B7 18)) cs8 0)) 19 (upd ((B7 19)) cs8 (nI hd))) J K6 w := hO.to rfl
  refine W.widen (k := 1) (n := 6) (by omega) (by omega) ?_
  have hzz1 : H.size ≤ s.heap.size + (0) := (by have z : 0 ≤ 0 := (by omega); omega)
  have hzz2 : hSl H ≤ hSl s.heap + (0) := (by have z : 0 ≤ 0 := (by omega); omega)
  exact W.iret (v := 60) hx hb hr (fun t99 ht99 hW99 => ⟨⟨_, (w, (K6, (updA (updA (updA (updA B7 16 (upd ((B7 16)) cs8 11)) 17 (upd ((B7 17)) cs8 (tkN ((B7 7)) sz 67 tk))) 18 (upd ((B7 18)) cs8 0)) 19 (upd ((B7 19)) cs8 (nI hd))), (cs8 + 1), as10, wt11, wf12, 60, Ag76)), rfl, ⟨rfl, hz79, hz80, hz81, hz82, hz83, hz84, hz85, hz86, hz87, hz88, hz89, hO⟩, by rw [ht99]; exact hP, hD, by rw [ht99]; exact hzz1, by rw [ht99]; exact hzz2⟩, hS.F ht99⟩) hS.2.2 dX0_prefix_37
set_option maxHeartbeats 24000000 in
set_option maxRecDepth 100000 in
theorem Y_lengthE (l : Launch) (G : pT) (h0 : Nat) (a : Nat → Nat) (F : Nat → Int32) (R : Nat → Value) (Z : Int64) (B : Nat → Nat → Int32) (J : Nat → Nat → Int64) (K : PK) (w : va_W) (pq : Nat) (dr : Nat) (ml : Nat) (nd : Nat) (nm : Nat) (cp : Nat) (it : Nat → Nat) (s9 : Nat) (q : Nat) (mq : Nat) (cs : Nat) (vr : Nat) (sz : Nat) (n : Nat) (q1 : Nat) (g : Nat → Nat → Nat) (rk : Nat → Nat) (pb : PNb) (Ag : Nat → AS) (pd : Nat → Prop) (sl : Nat → Nat) (os : List Nat) (m9 : Nat) (sn : Nat) (lo : Nat) (hd : Nat) (c0 : Nat) (as9 : Int32) (okA : Prop) (hsz : sz ≤ 5000) (hwp : WPr G K g) (hps : PgT G K g (a 1) pq dr ml nd nm cp it s9) (hrk : RkO K rk) (hcs : cs ≤ 10000) (hvr : vr ≤ 30) (hng : Nng (B 18)) (hmq : K.1 mq = 3) (hqT : K.1 q = 1) (hqL : 1 ≤ g 0 q ∧ g 0 q ≤ n) (hek : EkA pb K g (B 7) (B 11) sz) (hcO : OwC K dr mq c0) (hna : NaB pb G K (B 11) dr nd sz) (hen : EnV (B 26) (B 27) nd vr hd c0 sl) (hem : okA → EmB pb B Ag pd m9 sn lo cs as9 hd sl os) (hrm : cs + 2 * tlE g q ≤ 10000) (hop : os.length + ndE g q ≤ 248) (hlf : 1 ≤ tlE g q ∧ 1 ≤ ndE g q) (hc0 : K.2.2.1 0 q = some q1) (ht0 : K.1 q1 = 1) (hv0 : 1 ≤ g 0 q1 ∧ g 0 q1 + 1 ≤ n) (hlf0 : 1 ≤ tlE g q1 ∧ 1 ≤ ndE g q1) (hin0 : InE g q q1) (htl : tlE g q1 + 1 ≤ tlE g q) (hnd0 : ndE g q1 ≤ ndE g q) (ihv : IhY l G n) (hO : OKP G h0 a (upd (upd (upd (upd (upd F 2 (nI sz)) 5 (nI cs)) 7 (nI hd)) 12 (nI vr)) 13 as9) (updR (updR R 2 (.ref pq)) 3 (.ref mq)) Z B J K w) (hl0 : l.stackTraces = false) : PBn l G pX0 yX0_length cX0_length 2 (some .int) ({ frames := (5 * n + 33), cells := 1, slots := 6, locals := (200 * n + 560) }) [.ref (a 4), .ref q] w (fun (v : Option Value) (u : va_W × (PK × (Nat → Nat → Int32) × Nat × Int32 × Int32 × Int32 × Nat × (Nat → AS))) => v = some (.int (nI u.2.2.2.2.2.2.2.1)) ∧ (SmW B u.2.2.1 cs) ∧ (BdE K u.2.1) ∧ (BeF K u.2.1) ∧ (BeL K u.2.1 none) ∧ (BeI K u.2.1 g q) ∧ (Bth B u.2.2.1) ∧ (BeR B u.2.2.1) ∧ (u.2.2.2.2.2.2.2.1 < 128) ∧ (cs ≤ u.2.2.2.1 ∧ u.2.2.2.1 + 0 ≤ cs + 2 * tlE g q) ∧ (AsE as9 u.2.2.2.2.1) ∧ (okA → PlQ pb B u.2.2.1 Ag u.2.2.2.2.2.2.2.2 pd m9 sn lo cs u.2.2.2.1 as9 u.2.2.2.2.1 hd sl os u.2.2.2.2.2.2.2.1 (K.2.1 0 q)) ∧ (OKP G h0 a (upd (upd (upd (upd (upd (upd (upd F 2 (nI sz)) 5 (nI u.2.2.2.1)) 7 (nI hd)) 12 (nI vr)) 13 u.2.2.2.2.1) 14 u.2.2.2.2.2.1) 15 u.2.2.2.2.2.2.1) (updR (updR R 2 (.ref pq)) 3 (.ref mq)) Z u.2.2.1 J u.2.1 u.1)) (fun u => u.1) (fun (u : va_W × (PK × (Nat → Nat → Int32) × Nat × Int32 × Int32 × Int32 × Nat × (Nat → AS))) => 0) (fun (u : va_W × (PK × (Nat → Nat → Int32) × Nat × Int32 × Int32 × Int32 × Nat × (Nat → AS))) => 0) (fun (u : va_W × (Nat → Int32) × (Nat → Value) × (Nat → Nat → Int32)) => ThQ G h0 a (upd (upd (upd (upd (upd F 2 (nI sz)) 5 (nI cs)) 7 (nI hd)) 12 (nI vr)) 13 as9) (updR (updR R 2 (.ref pq)) 3 (.ref mq)) Z B J u) (fun u => u.1) := by
  intro sz
  refine vx_ofW (cc := cX0_length) (maxL := 2) (ret := (some .int)) (by decide) rfl ?_
  intro p e s m args below meth c s₁ B9 hml hnt hv
  obtain ⟨rfl, hsz, hP, hD0, hE, hX⟩ := hv
  have hx := B9.exec
  have hb := B9.bytes
  have hr := B9.returns
  have hts := atoms_spec (ws := Cond.code yX0_length cX0_length 2 (some .int) :: pw) B9.pre
  have hq : ∀ w ∈ pw, w.before _ s = true := fun w h => hts w (List.mem_cons_of_mem _ h)
  have hown : s.vm.findClass RX0 = some m.cls := findClass_of_methodNamed B9.named
  have hlocks := B9.notSynchronized
  subst hsz
  have hD := hD0.self (sz := s.heap.size)
  have hA : ∀ q : Nat, s.heap.size ≤ q → va_A w s.heap.size q := fun q h => Or.inr h
  generalize va_A w s.heap.size = A at hD hE hA ⊢
  have hS : va_S A s.heap s.heap [] := va_S.rf
  have hl := lv_entry ([.ref (a 4), .ref q]) (n := 2) (Nat.le_of_ble_eq_true rfl)
  rw [lg_entry_eq]
  generalize (lg_sl ([.ref (a 4), .ref q]) ++ List.replicate (2 - (lg_sl ([.ref (a 4), .ref q])).length) Slot.unset).toArray = ls at hl ⊢
  have hl : lv_has ls 2 [(0, .ref (a 4)), (1, .ref q)] := hl
  have hpg := hps.1
  have hp1 := hpg.1
  have hp2 := hpg.2.1
  have hp3 := hpg.2.2.1
  have hp4 := hpg.2.2.2.1
  have hp5 := hpg.2.2.2.2.1
  have hp6 := hpg.2.2.2.2.2.1
  have hp8 := hpg.2.2.2.2.2.2.2.1
  have hp9 := hpg.2.2.2.2.2.2.2.2
  have hdr0 : ¬ K.1 dr = 0 := by rw [hp4]; decide
  have hev0 : okA → EvQ pb.1 pb.2.1 pb.2.2.1 pb.2.2.2 (B 16) (B 17) (B 18) (B 19) (B 16) (B 17) (B 18) (B 19) Ag Ag pd m9 sn lo cs cs as9 as9 hd sl os := fun z => EvB.nil (hem z)
  refine lv_aload_n hx hb dX0_length_0 rfl (lv_at hl 0 rfl) ?_
  refine lv_aload_n hx hb dX0_length_1 rfl (lv_at hl 1 rfl) ?_
  refine p_get (v := .ref q1) (C := RX7) (Tc := TX7) (N := 11) (ci := 13) hx hb hq pin_wsX70 hown hE hP hO (by rw [hqT]; decide) (rep_1 hqT) rfl 6 (by decide) (hq _ pw_180) (fun _ h9 => h9) (congrArg (fun z => some (va_rf z)) hc0) dX0_length_2 ?_
  refine lv_aload_n hx hb dX0_length_5 rfl (lv_at hl 0 rfl) ?_
  refine lv_aload_n hx hb dX0_length_6 rfl (lv_at hl 1 rfl) ?_
  refine p_get (v := .ref q1) (C := RX7) (Tc := TX7) (N := 11) (ci := 13) hx hb hq pin_wsX70 hown hE hP hO (by rw [hqT]; decide) (rep_1 hqT) rfl 6 (by decide) (hq _ pw_180) (fun _ h9 => h9) (congrArg (fun z => some (va_rf z)) hc0) dX0_length_7 ?_
  have hO : OKP G h0 a (upd (upd (upd (upd (upd (upd (upd (upd (upd (upd F 2 (nI sz)) 5 (nI cs)) 7 (nI hd)) 12 (nI vr)) 13 as9) 2 (nI sz)) 5 (nI cs)) 7 (nI hd)) 12 (nI vr)) 13 as9) (updR (updR (updR (updR R 2 (.ref pq)) 3 (.ref mq)) 2 (.ref pq)) 3 (.ref mq)) Z B J K w := hO.to rfl
  obtain ⟨_, qr4, hqr5⟩ := hO.2.1 24 _ (sg_24 G h0 a _ _ _ _ _)
  refine pn_V0 (G := G) (As := [.ref q1]) (rest := [.ref q1, .ref (a 4)]) hx hb hml hown hq hE hX pX0_al hP hD hS hA hl.1 ((ihv (by omega)) h0 a (upd (upd (upd (upd (upd F 2 (nI sz)) 5 (nI cs)) 7 (nI hd)) 12 (nI vr)) 13 as9) (updR (updR R 2 (.ref pq)) 3 (.ref mq)) Z B J K w pq dr ml nd nm cp it s9 q1 mq cs vr sz g rk pb Ag pd sl os m9 sn lo hd c0 as9 okA (by omega) (BdE.wp BdE.rfl hwp) (BdE.pt BdE.rfl hwp hps) (BdE.rko BdE.rfl hrk) (by omega) (by omega) hng hmq ht0 ⟨hv0.1, (by have z9 := hv0; omega)⟩ (EkA.be BdE.rfl (BeR.rfl 7 (by decide)) (BeR.rfl 11 (by decide)) hek) (OwC.be BdE.rfl hmq hdr0 hcO) (NaB.be BdE.rfl BeF.rfl hwp hps.2.1 hdr0 (BeR.rfl 11 (by decide)) hna) (EnV.of (BeR.rfl 26 (by decide)) (BeR.rfl 27 (by decide)) hen) (fun z => (hev0 z).1) (by omega) (by show os.length + ndE g q1 ≤ 248; omega) hlf0 hO hl0) (gV pw_173 pw_174 pw_175 pw_63 pw_224) hV_X0_value qr4 0 hqr5 rfl rfl rfl (Nat.le_of_ble_eq_true rfl) dX0_length_10 ⟨(by show 0 + 1 ≤ 1; omega), (by show 0 + 6 ≤ 6; omega)⟩ ⟨(by show (5 * (n - 1) + 34) + 1 ≤ (5 * n + 33); omega), (by show 8 + (3 + 11) + (200 * (n - 1) + 600) ≤ (200 * n + 560); omega)⟩ (fun v3 u1 H locs hw2 hP hD hS => ?_) (fun ux ce9 q9 H9 locs9 hux hP9 hD9 hS9 hce hcv hcl => pb_out ux (ThQ.up (Thx.same (Thx.same (Thx.same (Thx.same (Thx.same Thx.rfl rfl) rfl) rfl) rfl) rfl) (show RhX (updR (updR R 2 (.ref pq)) 3 (.ref mq)) (updR (updR (updR (updR R 2 (.ref pq)) 3 (.ref mq)) 2 (.ref pq)) 3 (.ref mq)) from fun k9 hk9 => by unfold updR; simp only [show ¬ k9 = 1 by omega, show ¬ k9 = 2 by omega, show ¬ k9 = 3 by omega, show ¬ k9 = 4 by omega, if_false]) hux) hnt hlocks hce hcv hcl hP9 hD9 hS9 (by show 0 + 1 ≤ 1; omega) (by show 0 + 6 ≤ 6; omega))
  obtain ⟨w, K6, B7, cs8, as10, wt11, wf12, t13, Ag14, u15⟩ := u1
  obtain ⟨hw2, h16, h17, h18, h19, h20, h21, h22, h23, h24, h25, h26, h27, hO⟩ := hw2
  have h16 : SmW B B7 cs := h16
  have h17 : BdE K K6 := h17
  have h18 : BeF K K6 := h18
  have h19 : BeL K K6 none := h19
  have h20 : BeI K K6 g q1 := h20
  have h21 : Bth B B7 := h21
  have h22 : BeR B B7 := h22
  have h23 : t13 < 128 := h23
  have h24 : cs ≤ cs8 ∧ cs8 + 0 ≤ cs + 2 * tlE g q1 := h24
  have h25 : AsE as9 as10 ∧ AsE as9 wt11 ∧ AsE as9 wf12 := h25
  have h26 : okA → VaQ pb B B7 Ag Ag14 pd m9 sn lo cs cs8 as9 as10 wt11 wf12 hd sl os t13 u15 (K.2.1 0 q1) := h26
  have h27 : CaK (K.2.1 0 q1) → cs8 + 2 ≤ cs + 2 * tlE g q1 := h27
  obtain rfl : v3 = some (.int (nI t13)) := hw2
  have hf28 : K6.1 pq = 7 := (BdE.T h17 hp1 (by decide))
  have hf29 : K6.2.2.1 18 pq = some (a 1) := (BdE.C h17 (by rw [hp1]; decide) 18).trans hp2
  have hf30 : K6.2.2.1 14 pq = some dr := (BdE.C h17 (by rw [hp1]; decide) 14).trans hp3
  have hf31 : K6.1 dr = 8 := (BdE.T h17 hp4 (by decide))
  have hf32 : K6.2.2.1 15 pq = some ml := (BdE.C h17 (by rw [hp1]; decide) 15).trans hp5
  have hf33 : K6.1 ml = 5 := (BdE.T h17 hp6 (by decide))
  have hf34 : K6.2.1 24 pq = (nI nd) := (BdE.I h17 (by rw [hp1]; decide) (by decide) (by decide)).trans hp8
  have hf35 : K6.1 q = 1 := (BdE.T h17 hqT (by decide))
  have hf36 : K6.1 mq = 3 := (BdE.T h17 hmq (by decide))
  have hf37 : K6.2.2.1 0 q = some q1 := (BdE.C h17 (by rw [hqT]; decide) 0).trans hc0
  have hf38 : K6.1 q1 = 1 := (BdE.T h17 ht0 (by decide))
  have hO : OKP G h0 a (upd (upd (upd (upd (upd (upd (upd F 2 (nI sz)) 5 (nI cs8)) 7 (nI hd)) 12 (nI vr)) 13 as10) 14 wt11) 15 wf12) (updR (updR R 2 (.ref pq)) 3 (.ref mq)) Z B7 J K6 w := hO.to rfl
  refine W.widen (k := 0) (n := 0) (by show 0 + 0 ≤ 0; omega) (by show 0 + 0 ≤ 0; omega) ?_
  refine W.eq (g2 := F0 m 13 ls [.int (nI t13), .ref q1, .ref (a 4)]) rfl ?_
  have hbe39 := BdE.trans BdE.rfl h17
  have hbb40 : Bth B B7 := Bth.trans (show Thx (upd (upd (upd (upd (upd F 2 (nI sz)) 5 (nI cs)) 7 (nI hd)) 12 (nI vr)) 13 as9) (upd (upd (upd (upd (upd F 2 (nI sz)) 5 (nI cs)) 7 (nI hd)) 12 (nI vr)) 13 as9) B B from Thx.rfl).2 h21
  have hng41 : Nng (B7 18) := h21.2 hng
  have hsw42 : ∀ x9 : Nat, x9 < cs → (B7 16) x9 = B 16 x9 := fun x9 hx9 => ((h16 x9 (by omega)).1).trans ((fun _ _ => rfl) x9 hx9)
  have hsw43 : ∀ x9 : Nat, x9 < cs → (B7 17) x9 = B 17 x9 := fun x9 hx9 => ((h16 x9 (by omega)).2.1).trans ((fun _ _ => rfl) x9 hx9)
  have hsw44 : ∀ x9 : Nat, x9 < cs → (B7 18) x9 = B 18 x9 := fun x9 hx9 => ((h16 x9 (by omega)).2.2.1).trans ((fun _ _ => rfl) x9 hx9)
  have hsw45 : ∀ x9 : Nat, x9 < cs → (B7 19) x9 = B 19 x9 := fun x9 hx9 => ((h16 x9 (by omega)).2.2.2).trans ((fun _ _ => rfl) x9 hx9)
  have hbf46 := BeF.trans BeF.rfl h18 BdE.rfl
  have hbl49 := BeL.trans BeL.rfl h19 BdE.rfl
  have hbi50 := BeI.trans BeI.rfl h20 BdE.rfl hin0
  have hbr47 : BeR B B7 := BeR.trans BeR.rfl h22
  have hpt48 : (okA ∧ ¬ t13 = 63) → EvQ pb.1 pb.2.1 pb.2.2.1 pb.2.2.2 (B 16) (B 17) (B 18) (B 19) (B7 16) (B7 17) (B7 18) (B7 19) Ag Ag14 pd m9 sn lo cs cs8 as9 as10 hd sl (u15 :: os) ∧ UTb u15 (nI t13) as10 wt11 wf12 := fun z => VaQ.part (B1 := B) (hev0 z.1) (h26 z.1) h23 z.2
  have hev51 := fun z => (hpt48 z).1
  have has52 : AsE as9 as10 ∧ AsE as9 wt11 ∧ AsE as9 wf12 := ⟨AsE.trans AsE.rfl h25.1, AsE.trans AsE.rfl h25.2.1, AsE.trans AsE.rfl h25.2.2⟩
  have hO : OKP G h0 a (upd (upd (upd (upd (upd (upd (upd (upd (upd (upd F 2 (nI sz)) 5 (nI cs)) 7 (nI hd)) 12 (nI vr)) 13 as9) 5 (nI cs8)) 13 as10) 14 wt11) 15 wf12) 2 (nI sz)) (updR (updR R 2 (.ref pq)) 3 (.ref mq)) Z B7 J K6 w := hO.to rfl
  obtain ⟨_, qr56, hqr57⟩ := hO.2.1 24 _ (sg_24 G h0 a _ _ _ _ _)
  refine pn_V0 (G := G) (As := [.ref q1, .int (nI t13)]) (rest := []) hx hb hml hown hq hE hX pX0_al hP hD hS hA hl.1 (Y_elementType l G h0 a (upd (upd (upd (upd (upd (upd (upd (upd (upd F 2 (nI sz)) 5 (nI cs)) 7 (nI hd)) 12 (nI vr)) 13 as9) 5 (nI cs8)) 13 as10) 14 wt11) 15 wf12) (updR (updR R 2 (.ref pq)) 3 (.ref mq)) Z B7 J K6 w q1 sz t13 (by omega) hf38 (by omega) hO hl0) (gV pw_207 pw_208 pw_209 pw_63 pw_137) hV_X0_elementType qr56 0 hqr57 rfl rfl rfl (Nat.le_of_ble_eq_true rfl) dX0_length_13 ⟨(by show 0 + 1 ≤ 1; omega), (by show 0 + 6 ≤ 6; omega)⟩ ⟨(by show 7 + 1 ≤ (5 * n + 33); omega), (by show 8 + (3 + 11) + 122 ≤ (200 * n + 560); omega)⟩ (fun v55 u53 H locs hw54 hP hD hS => ?_) (fun ux ce9 q9 H9 locs9 hux hP9 hD9 hS9 hce hcv hcl => pb_out ux (ThQ.up (Thx.same (Thx.f (Thx.f (Thx.f (Thx.f (Bth.thx hbb40) (by omega)) (by omega)) (by omega)) (by omega)) rfl) RhX.rfl hux) hnt hlocks hce hcv hcl hP9 hD9 hS9 (by show 0 + 1 ≤ 1; omega) (by show 0 + 6 ≤ 6; omega))
  obtain ⟨w, _⟩ := u53
  obtain ⟨hw54, h58, hO⟩ := hw54
  have h58 : 64 ≤ t13 := h58
  obtain rfl : v55 = some (.int (nI (t13 - 64))) := hw54
  have hO : OKP G h0 a (upd (upd (upd (upd (upd (upd (upd F 2 (nI sz)) 5 (nI cs8)) 7 (nI hd)) 12 (nI vr)) 13 as10) 14 wt11) 15 wf12) (updR (updR R 2 (.ref pq)) 3 (.ref mq)) Z B7 J K6 w := hO.to rfl
  refine W.widen (k := 0) (n := 0) (by show 0 + 0 ≤ 0; omega) (by show 0 + 0 ≤ 0; omega) ?_
  refine W.eq (g2 := F0 m 16 ls [.int (nI (t13 - 64))]) rfl ?_
  refine lv_pop hx hb dX0_length_16 rfl ?_
  refine lv_aload_n hx hb dX0_length_17 rfl (lv_at hl 0 rfl) ?_
  refine lv_bipush (v := 16) hx hb dX0_length_18 (by decide) ?_
  refine lv_iconst (v := 0) hx hb dX0_length_20 (by decide) ?_
  refine lv_bipush (v := 60) hx hb dX0_length_21 (by decide) ?_
  have hut59 := fun z : okA => (hpt48 ⟨z, (by omega)⟩).2
  have hev60 := fun z : okA => hev51 ⟨z, (by omega)⟩
  have hO : OKW G h0 a (upd (upd (upd (upd (upd (upd (upd (upd (upd F 2 (nI sz)) 5 (nI cs8)) 7 (nI hd)) 12 (nI vr)) 13 as10) 14 wt11) 15 wf12) 5 (nI cs8)) 7 (nI hd)) (updR (updR R 2 (.ref pq)) 3 (.ref mq)) Z B7 J K6.1 (fun q99 x99 => x99 = rep G a K6 q99) w := hO.to rfl
  obtain ⟨_, qr64, hqr65⟩ := hO.2.1 24 _ (sg_24 G h0 a _ _ _ _ _)
  refine pc_V0 (G := G) (As := [.int 16, .int 0, .int 60]) (rest := []) hx hb hml hown hq hE hX pX0_al hP hD hS hA hl.1 (Y_give l G h0 a (upd (upd (upd (upd (upd (upd (upd F 2 (nI sz)) 5 (nI cs8)) 7 (nI hd)) 12 (nI vr)) 13 as10) 14 wt11) 15 wf12) (updR (updR R 2 (.ref pq)) 3 (.ref mq)) Z B7 J K6.1 (fun q99 x99 => x99 = rep G a K6 q99) w 16 0 60 cs8 hd (by omega) hO) (gV pw_158 pw_159 pw_160 pw_63 pw_128) hV_X0_give qr64 0 hqr65 rfl rfl rfl (Nat.le_of_ble_eq_true rfl) dX0_length_23 ⟨(by show 0 + 0 ≤ 1; omega), (by show 0 + 0 ≤ 6; omega)⟩ ⟨(by show 3 + 1 ≤ (5 * n + 33); omega), (by show 8 + (4 + 11) + 83 ≤ (200 * n + 560); omega)⟩ (fun v63 u61 H locs hw62 hP hD hS => ?_)
  obtain ⟨w, _⟩ := u61
  obtain ⟨hw62, hO⟩ := hw62
  obtain rfl : v63 = some (.int 60) := hw62
  have hO : OKP G h0 a (upd (upd (upd (upd (upd (upd (upd F 2 (nI sz)) 5 (nI (cs8 + 1))) 7 (nI hd)) 12 (nI vr)) 13 as10) 14 wt11) 15 wf12) (updR (updR R 2 (.ref pq)) 3 (.ref mq)) Z (updA (updA (updA (updA B7 16 (upd ((B7 16)) cs8 16)) 17 (upd ((B7 17)) cs8 0)) 18 (upd ((B7 18)) cs8 0)) 19 (upd ((B7 19)) cs8 (nI hd))) J K6 w := hO.to rfl
  refine W.widen (k := 0) (n := 0) (Nat.le_of_ble_eq_true rfl) (Nat.le_of_ble_eq_true rfl) ?_
  refine W.eq (g2 := F0 m 26 ls [.int 60]) rfl ?_
  have hsw66 : ∀ x9 : Nat, x9 < cs → (upd ((B7 16)) cs8 16) x9 = B 16 x9 := fun x9 hx9 => (if_neg (by omega)).trans (hsw42 x9 hx9)
  have hsw67 : ∀ x9 : Nat, x9 < cs → (upd ((B7 17)) cs8 0) x9 = B 17 x9 := fun x9 hx9 => (if_neg (by omega)).trans (hsw43 x9 hx9)
  have hsw68 : ∀ x9 : Nat, x9 < cs → (upd ((B7 18)) cs8 0) x9 = B 18 x9 := fun x9 hx9 => (if_neg (by omega)).trans (hsw44 x9 hx9)
  have hsw69 : ∀ x9 : Nat, x9 < cs → (upd ((B7 19)) cs8 (nI hd)) x9 = B 19 x9 := fun x9 hx9 => (if_neg (by omega)).trans (hsw45 x9 hx9)
  obtain ⟨Ag70, hev71⟩ : ∃ A5 : Nat → AS, okA → EvQ pb.1 pb.2.1 pb.2.2.1 pb.2.2.2 (B 16) (B 17) (B 18) (B 19) (upd ((B7 16)) cs8 16) (upd ((B7 17)) cs8 0) (upd ((B7 18)) cs8 0) (upd ((B7 19)) cs8 (nI hd)) Ag A5 pd m9 sn lo cs (cs8 + 1) as9 as10 hd sl (60 :: os) := ⟨(upS Ag14 (cs8 + 1) (rcA as10, hd, sl, (60 :: os))), fun z => (hev60 z).trans (EmS.len (hev60 z).1 (by show os.length + 1 ≤ 248; omega) (by rw [UTb.eq (hut59 z) h23 (by omega)]; exact RfT.of h23 (by omega) (by omega) (by omega)))⟩
  have hng9 : Nng (upd ((B7 18)) cs8 0) := Nng.set hng41 (k := 0) (by omega)
  have hng72 := hng9
  refine W_size (fun hz1 hz2 => ?_)
  refine vx_ret ?_
  have hz73 : SmW B (updA (updA (updA (updA B7 16 (upd ((B7 16)) cs8 16)) 17 (upd ((B7 17)) cs8 0)) 18 (upd ((B7 18)) cs8 0)) 19 (upd ((B7 19)) cs8 (nI hd))) cs := (fun x9 hx9 => ⟨hsw66 x9 hx9, hsw67 x9 hx9, hsw68 x9 hx9, hsw69 x9 hx9⟩)
  have hz74 : BdE K K6 := hbe39
  have hz75 : BeF K K6 := hbf46
  have hz76 : BeL K K6 none := hbl49
  have hz77 : BeI K K6 g q := hbi50
  have hz78 : Bth B (updA (updA (updA (updA B7 16 (upd ((B7 16)) cs8 16)) 17 (upd ((B7 17)) cs8 0)) 18 (upd ((B7 18)) cs8 0)) 19 (upd ((B7 19)) cs8 (nI hd))) := (show Thx (upd (upd (upd (upd (upd F 2 (nI sz)) 5 (nI cs)) 7 (nI hd)) 12 (nI vr)) 13 as9) (upd (upd (upd (upd (upd (upd (upd (upd (upd F 2 (nI sz)) 5 (nI cs)) 7 (nI hd)) 12 (nI vr)) 13 as9) 5 (nI (cs8 + 1))) 13 as10) 14 wt11) 15 wf12) B (updA (updA (updA (updA B7 16 (upd ((B7 16)) cs8 16)) 17 (upd ((B7 17)) cs8 0)) 18 (upd ((B7 18)) cs8 0)) 19 (upd ((B7 19)) cs8 (nI hd))) from (Thx.b (Thx.b8 (Thx.b (Thx.b (Thx.f (Thx.f (Thx.f (Thx.f (Bth.thx hbb40) (by omega)) (by omega)) (by omega)) (by omega)) (by omega) (by decide)) (by omega) (by decide)) hng72) (by omega) (by decide))).2
  have hz79 : BeR B (updA (updA (updA (updA B7 16 (upd ((B7 16)) cs8 16)) 17 (upd ((B7 17)) cs8 0)) 18 (upd ((B7 18)) cs8 0)) 19 (upd ((B7 19)) cs8 (nI hd))) := (BeR.up (k := 19) (f := (upd ((B7 19)) cs8 (nI hd))) (BeR.up (k := 18) (f := (upd ((B7 18)) cs8 0)) (BeR.up (k := 17) (f := (upd ((B7 17)) cs8 0)) (BeR.up (k := 16) (f := (upd ((B7 16)) cs8 16)) hbr47 (by omega)) (by omega)) (by omega)) (by omega))
  have hz80 : 60 < 128 := (by omega)
  have hz81 : cs ≤ (cs8 + 1) ∧ (cs8 + 1) + 0 ≤ cs + 2 * tlE g q := (by omega)
  have hz82 : AsE as9 as10 := has52.1
  have hz83 : okA → PlQ pb B (updA (updA (updA (updA B7 16 (upd ((B7 16)) cs8 16)) 17 (upd ((B7 17)) cs8 0)) 18 (upd ((B7 18)) cs8 0)) 19 (upd ((B7 19)) cs8 (nI hd))) Ag Ag70 pd m9 sn lo cs (cs8 + 1) as9 as10 hd sl os 60 (K.2.1 0 q) := (fun z => Or.inr ⟨by rw [rsO_ne (by omega)]; exact hev71 z, by omega⟩)
  have hO : OKP G h0 a (upd (upd (upd (upd (upd (upd (upd F 2 (nI sz)) 5 (nI (cs8 + 1))) 7 (nI hd)) 12 (nI vr)) 13 as10) 14 wt11) 15 wf12) (updR (updR R 2 (.ref pq)) 3 (.ref mq)) Z (updA (updA (updA (updA B7 16 (upd ((B7 16)) cs8 16)) 17 (upd ((B7 17)) cs8 0)) 18 (upd ((B7 18)) cs8 0)) 19 (upd ((B7 19)) cs8 (nI hd))) J K6 w := hO.to rfl
  refine W.widen (k := 1) (n := 6) (by omega) (by omega) ?_
  have hzz1 : H.size ≤ s.heap.size + (0) := (by have z : 0 ≤ 0 := (by omega); omega)
  have hzz2 : hSl H ≤ hSl s.heap + (0) := (by have z : 0 ≤ 0 := (by omega); omega)
  exact W.iret (v := 60) hx hb hr (fun t99 ht99 hW99 => ⟨⟨_, (w, (K6, (updA (updA (updA (updA B7 16 (upd ((B7 16)) cs8 16)) 17 (upd ((B7 17)) cs8 0)) 18 (upd ((B7 18)) cs8 0)) 19 (upd ((B7 19)) cs8 (nI hd))), (cs8 + 1), as10, wt11, wf12, 60, Ag70)), rfl, ⟨rfl, hz73, hz74, hz75, hz76, hz77, hz78, hz79, hz80, hz81, hz82, hz83, hO⟩, by rw [ht99]; exact hP, hD, by rw [ht99]; exact hzz1, by rw [ht99]; exact hzz2⟩, hS.F ht99⟩) hS.2.2 dX0_length_26
set_option maxHeartbeats 24000000 in
set_option maxRecDepth 100000 in
theorem Y_newArray (l : Launch) (G : pT) (h0 : Nat) (a : Nat → Nat) (F : Nat → Int32) (R : Nat → Value) (Z : Int64) (B : Nat → Nat → Int32) (J : Nat → Nat → Int64) (K : PK) (w : va_W) (pq : Nat) (dr : Nat) (ml : Nat) (nd : Nat) (nm : Nat) (cp : Nat) (it : Nat → Nat) (s9 : Nat) (q : Nat) (mq : Nat) (cs : Nat) (vr : Nat) (sz : Nat) (n : Nat) (q1 : Nat) (g : Nat → Nat → Nat) (rk : Nat → Nat) (pb : PNb) (Ag : Nat → AS) (pd : Nat → Prop) (sl : Nat → Nat) (os : List Nat) (m9 : Nat) (sn : Nat) (lo : Nat) (hd : Nat) (c0 : Nat) (as9 : Int32) (okA : Prop) (hsz : sz ≤ 5000) (hwp : WPr G K g) (hps : PgT G K g (a 1) pq dr ml nd nm cp it s9) (hrk : RkO K rk) (hcs : cs ≤ 10000) (hvr : vr ≤ 30) (hng : Nng (B 18)) (hmq : K.1 mq = 3) (hqT : K.1 q = 1) (hqL : 1 ≤ g 0 q ∧ g 0 q ≤ n) (hek : EkA pb K g (B 7) (B 11) sz) (hcO : OwC K dr mq c0) (hna : NaB pb G K (B 11) dr nd sz) (hen : EnV (B 26) (B 27) nd vr hd c0 sl) (hem : okA → EmB pb B Ag pd m9 sn lo cs as9 hd sl os) (hrm : cs + 2 * tlE g q ≤ 10000) (hop : os.length + ndE g q ≤ 248) (hlf : 1 ≤ tlE g q ∧ 1 ≤ ndE g q) (hc0 : K.2.2.1 0 q = some q1) (ht0 : K.1 q1 = 1) (hv0 : 1 ≤ g 0 q1 ∧ g 0 q1 + 1 ≤ n) (hlf0 : 1 ≤ tlE g q1 ∧ 1 ≤ ndE g q1) (hin0 : InE g q q1) (htl : tlE g q1 + 1 ≤ tlE g q) (hnd0 : ndE g q1 ≤ ndE g q) (hta : tyN (B 11) sz (K.2.1 1 q) < 62) (ihv : IhY l G n) (hO : OKP G h0 a (upd (upd (upd (upd (upd F 2 (nI sz)) 5 (nI cs)) 7 (nI hd)) 12 (nI vr)) 13 as9) (updR (updR R 2 (.ref pq)) 3 (.ref mq)) Z B J K w) (hl0 : l.stackTraces = false) : PBn l G pX0 yX0_newArray cX0_newArray 3 (some .int) ({ frames := (5 * n + 33), cells := 1, slots := 6, locals := (200 * n + 560) }) [.ref (a 4), .ref q] w (fun (v : Option Value) (u : va_W × (PK × (Nat → Nat → Int32) × Nat × Int32 × Int32 × Int32 × Nat × (Nat → AS))) => v = some (.int (nI u.2.2.2.2.2.2.2.1)) ∧ (SmW B u.2.2.1 cs) ∧ (BdE K u.2.1) ∧ (BeF K u.2.1) ∧ (BeL K u.2.1 none) ∧ (BeI K u.2.1 g q) ∧ (Bth B u.2.2.1) ∧ (BeR B u.2.2.1) ∧ (u.2.2.2.2.2.2.2.1 < 128) ∧ (cs ≤ u.2.2.2.1 ∧ u.2.2.2.1 + 0 ≤ cs + 2 * tlE g q) ∧ (AsE as9 u.2.2.2.2.1) ∧ (okA → PlQ pb B u.2.2.1 Ag u.2.2.2.2.2.2.2.2 pd m9 sn lo cs u.2.2.2.1 as9 u.2.2.2.2.1 hd sl os u.2.2.2.2.2.2.2.1 (K.2.1 0 q)) ∧ (OKP G h0 a (upd (upd (upd (upd (upd (upd (upd F 2 (nI sz)) 5 (nI u.2.2.2.1)) 7 (nI hd)) 12 (nI vr)) 13 u.2.2.2.2.1) 14 u.2.2.2.2.2.1) 15 u.2.2.2.2.2.2.1) (updR (updR R 2 (.ref pq)) 3 (.ref mq)) Z u.2.2.1 J u.2.1 u.1)) (fun u => u.1) (fun (u : va_W × (PK × (Nat → Nat → Int32) × Nat × Int32 × Int32 × Int32 × Nat × (Nat → AS))) => 0) (fun (u : va_W × (PK × (Nat → Nat → Int32) × Nat × Int32 × Int32 × Int32 × Nat × (Nat → AS))) => 0) (fun (u : va_W × (Nat → Int32) × (Nat → Value) × (Nat → Nat → Int32)) => ThQ G h0 a (upd (upd (upd (upd (upd F 2 (nI sz)) 5 (nI cs)) 7 (nI hd)) 12 (nI vr)) 13 as9) (updR (updR R 2 (.ref pq)) 3 (.ref mq)) Z B J u) (fun u => u.1) := by
  intro sz
  refine vx_ofW (cc := cX0_newArray) (maxL := 3) (ret := (some .int)) (by decide) rfl ?_
  intro p e s m args below meth c s₁ B9 hml hnt hv
  obtain ⟨rfl, hsz, hP, hD0, hE, hX⟩ := hv
  have hx := B9.exec
  have hb := B9.bytes
  have hr := B9.returns
  have hts := atoms_spec (ws := Cond.code yX0_newArray cX0_newArray 3 (some .int) :: pw) B9.pre
  have hq : ∀ w ∈ pw, w.before _ s = true := fun w h => hts w (List.mem_cons_of_mem _ h)
  have hown : s.vm.findClass RX0 = some m.cls := findClass_of_methodNamed B9.named
  have hlocks := B9.notSynchronized
  subst hsz
  have hD := hD0.self (sz := s.heap.size)
  have hA : ∀ q : Nat, s.heap.size ≤ q → va_A w s.heap.size q := fun q h => Or.inr h
  generalize va_A w s.heap.size = A at hD hE hA ⊢
  have hS : va_S A s.heap s.heap [] := va_S.rf
  have hl := lv_entry ([.ref (a 4), .ref q]) (n := 3) (Nat.le_of_ble_eq_true rfl)
  rw [lg_entry_eq]
  generalize (lg_sl ([.ref (a 4), .ref q]) ++ List.replicate (3 - (lg_sl ([.ref (a 4), .ref q])).length) Slot.unset).toArray = ls at hl ⊢
  have hl : lv_has ls 3 [(0, .ref (a 4)), (1, .ref q)] := hl
  have hpg := hps.1
  have hp1 := hpg.1
  have hp2 := hpg.2.1
  have hp3 := hpg.2.2.1
  have hp4 := hpg.2.2.2.1
  have hp5 := hpg.2.2.2.2.1
  have hp6 := hpg.2.2.2.2.2.1
  have hp8 := hpg.2.2.2.2.2.2.2.1
  have hp9 := hpg.2.2.2.2.2.2.2.2
  have hdr0 : ¬ K.1 dr = 0 := by rw [hp4]; decide
  have hev0 : okA → EvQ pb.1 pb.2.1 pb.2.2.1 pb.2.2.2 (B 16) (B 17) (B 18) (B 19) (B 16) (B 17) (B 18) (B 19) Ag Ag pd m9 sn lo cs cs as9 as9 hd sl os := fun z => EvB.nil (hem z)
  obtain ⟨tk, htk⟩ : ∃ z : Int32, K.2.1 1 q = z := ⟨_, rfl⟩
  refine lv_aload_n hx hb dX0_newArray_0 rfl (lv_at hl 0 rfl) ?_
  refine lv_aload_n hx hb dX0_newArray_1 rfl (lv_at hl 1 rfl) ?_
  refine p_get (v := .ref q1) (C := RX7) (Tc := TX7) (N := 11) (ci := 13) hx hb hq pin_wsX70 hown hE hP hO (by rw [hqT]; decide) (rep_1 hqT) rfl 6 (by decide) (hq _ pw_180) (fun _ h9 => h9) (congrArg (fun z => some (va_rf z)) hc0) dX0_newArray_2 ?_
  refine lv_aload_n hx hb dX0_newArray_5 rfl (lv_at hl 0 rfl) ?_
  refine lv_aload_n hx hb dX0_newArray_6 rfl (lv_at hl 1 rfl) ?_
  refine p_get (v := .ref q1) (C := RX7) (Tc := TX7) (N := 11) (ci := 13) hx hb hq pin_wsX70 hown hE hP hO (by rw [hqT]; decide) (rep_1 hqT) rfl 6 (by decide) (hq _ pw_180) (fun _ h9 => h9) (congrArg (fun z => some (va_rf z)) hc0) dX0_newArray_7 ?_
  have hO : OKP G h0 a (upd (upd (upd (upd (upd (upd (upd (upd (upd (upd F 2 (nI sz)) 5 (nI cs)) 7 (nI hd)) 12 (nI vr)) 13 as9) 2 (nI sz)) 5 (nI cs)) 7 (nI hd)) 12 (nI vr)) 13 as9) (updR (updR (updR (updR R 2 (.ref pq)) 3 (.ref mq)) 2 (.ref pq)) 3 (.ref mq)) Z B J K w := hO.to rfl
  obtain ⟨_, qr4, hqr5⟩ := hO.2.1 24 _ (sg_24 G h0 a _ _ _ _ _)
  refine pn_V0 (G := G) (As := [.ref q1]) (rest := [.ref q1, .ref (a 4)]) hx hb hml hown hq hE hX pX0_al hP hD hS hA hl.1 ((ihv (by omega)) h0 a (upd (upd (upd (upd (upd F 2 (nI sz)) 5 (nI cs)) 7 (nI hd)) 12 (nI vr)) 13 as9) (updR (updR R 2 (.ref pq)) 3 (.ref mq)) Z B J K w pq dr ml nd nm cp it s9 q1 mq cs vr sz g rk pb Ag pd sl os m9 sn lo hd c0 as9 okA (by omega) (BdE.wp BdE.rfl hwp) (BdE.pt BdE.rfl hwp hps) (BdE.rko BdE.rfl hrk) (by omega) (by omega) hng hmq ht0 ⟨hv0.1, (by have z9 := hv0; omega)⟩ (EkA.be BdE.rfl (BeR.rfl 7 (by decide)) (BeR.rfl 11 (by decide)) hek) (OwC.be BdE.rfl hmq hdr0 hcO) (NaB.be BdE.rfl BeF.rfl hwp hps.2.1 hdr0 (BeR.rfl 11 (by decide)) hna) (EnV.of (BeR.rfl 26 (by decide)) (BeR.rfl 27 (by decide)) hen) (fun z => (hev0 z).1) (by omega) (by show os.length + ndE g q1 ≤ 248; omega) hlf0 hO hl0) (gV pw_173 pw_174 pw_175 pw_63 pw_224) hV_X0_value qr4 0 hqr5 rfl rfl rfl (Nat.le_of_ble_eq_true rfl) dX0_newArray_10 ⟨(by show 0 + 1 ≤ 1; omega), (by show 0 + 6 ≤ 6; omega)⟩ ⟨(by show (5 * (n - 1) + 34) + 1 ≤ (5 * n + 33); omega), (by show 8 + (3 + 11) + (200 * (n - 1) + 600) ≤ (200 * n + 560); omega)⟩ (fun v3 u1 H locs hw2 hP hD hS => ?_) (fun ux ce9 q9 H9 locs9 hux hP9 hD9 hS9 hce hcv hcl => pb_out ux (ThQ.up (Thx.same (Thx.same (Thx.same (Thx.same (Thx.same Thx.rfl rfl) rfl) rfl) rfl) rfl) (show RhX (updR (updR R 2 (.ref pq)) 3 (.ref mq)) (updR (updR (updR (updR R 2 (.ref pq)) 3 (.ref mq)) 2 (.ref pq)) 3 (.ref mq)) from fun k9 hk9 => by unfold updR; simp only [show ¬ k9 = 1 by omega, show ¬ k9 = 2 by omega, show ¬ k9 = 3 by omega, show ¬ k9 = 4 by omega, if_false]) hux) hnt hlocks hce hcv hcl hP9 hD9 hS9 (by show 0 + 1 ≤ 1; omega) (by show 0 + 6 ≤ 6; omega))
  obtain ⟨w, K6, B7, cs8, as10, wt11, wf12, t13, Ag14, u15⟩ := u1
  obtain ⟨hw2, h16, h17, h18, h19, h20, h21, h22, h23, h24, h25, h26, h27, hO⟩ := hw2
  have h16 : SmW B B7 cs := h16
  have h17 : BdE K K6 := h17
  have h18 : BeF K K6 := h18
  have h19 : BeL K K6 none := h19
  have h20 : BeI K K6 g q1 := h20
  have h21 : Bth B B7 := h21
  have h22 : BeR B B7 := h22
  have h23 : t13 < 128 := h23
  have h24 : cs ≤ cs8 ∧ cs8 + 0 ≤ cs + 2 * tlE g q1 := h24
  have h25 : AsE as9 as10 ∧ AsE as9 wt11 ∧ AsE as9 wf12 := h25
  have h26 : okA → VaQ pb B B7 Ag Ag14 pd m9 sn lo cs cs8 as9 as10 wt11 wf12 hd sl os t13 u15 (K.2.1 0 q1) := h26
  have h27 : CaK (K.2.1 0 q1) → cs8 + 2 ≤ cs + 2 * tlE g q1 := h27
  obtain rfl : v3 = some (.int (nI t13)) := hw2
  have hf28 : K6.1 pq = 7 := (BdE.T h17 hp1 (by decide))
  have hf29 : K6.2.2.1 18 pq = some (a 1) := (BdE.C h17 (by rw [hp1]; decide) 18).trans hp2
  have hf30 : K6.2.2.1 14 pq = some dr := (BdE.C h17 (by rw [hp1]; decide) 14).trans hp3
  have hf31 : K6.1 dr = 8 := (BdE.T h17 hp4 (by decide))
  have hf32 : K6.2.2.1 15 pq = some ml := (BdE.C h17 (by rw [hp1]; decide) 15).trans hp5
  have hf33 : K6.1 ml = 5 := (BdE.T h17 hp6 (by decide))
  have hf34 : K6.2.1 24 pq = (nI nd) := (BdE.I h17 (by rw [hp1]; decide) (by decide) (by decide)).trans hp8
  have hf35 : K6.1 q = 1 := (BdE.T h17 hqT (by decide))
  have hf36 : K6.1 mq = 3 := (BdE.T h17 hmq (by decide))
  have hf37 : K6.2.2.1 0 q = some q1 := (BdE.C h17 (by rw [hqT]; decide) 0).trans hc0
  have hf38 : K6.1 q1 = 1 := (BdE.T h17 ht0 (by decide))
  have hf39 : K6.2.1 1 q = tk := (BdE.I h17 (by rw [hqT]; decide) (by decide) (by decide)).trans htk
  have hO : OKP G h0 a (upd (upd (upd (upd (upd (upd (upd F 2 (nI sz)) 5 (nI cs8)) 7 (nI hd)) 12 (nI vr)) 13 as10) 14 wt11) 15 wf12) (updR (updR R 2 (.ref pq)) 3 (.ref mq)) Z B7 J K6 w := hO.to rfl
  refine W.widen (k := 0) (n := 0) (by show 0 + 0 ≤ 0; omega) (by show 0 + 0 ≤ 0; omega) ?_
  refine W.eq (g2 := F0 m 13 ls [.int (nI t13), .ref q1, .ref (a 4)]) rfl ?_
  have hbe40 := BdE.trans BdE.rfl h17
  have hbb41 : Bth B B7 := Bth.trans (show Thx (upd (upd (upd (upd (upd F 2 (nI sz)) 5 (nI cs)) 7 (nI hd)) 12 (nI vr)) 13 as9) (upd (upd (upd (upd (upd F 2 (nI sz)) 5 (nI cs)) 7 (nI hd)) 12 (nI vr)) 13 as9) B B from Thx.rfl).2 h21
  have hng42 : Nng (B7 18) := h21.2 hng
  have hsw43 : ∀ x9 : Nat, x9 < cs → (B7 16) x9 = B 16 x9 := fun x9 hx9 => ((h16 x9 (by omega)).1).trans ((fun _ _ => rfl) x9 hx9)
  have hsw44 : ∀ x9 : Nat, x9 < cs → (B7 17) x9 = B 17 x9 := fun x9 hx9 => ((h16 x9 (by omega)).2.1).trans ((fun _ _ => rfl) x9 hx9)
  have hsw45 : ∀ x9 : Nat, x9 < cs → (B7 18) x9 = B 18 x9 := fun x9 hx9 => ((h16 x9 (by omega)).2.2.1).trans ((fun _ _ => rfl) x9 hx9)
  have hsw46 : ∀ x9 : Nat, x9 < cs → (B7 19) x9 = B 19 x9 := fun x9 hx9 => ((h16 x9 (by omega)).2.2.2).trans ((fun _ _ => rfl) x9 hx9)
  have hbf47 := BeF.trans BeF.rfl h18 BdE.rfl
  have hbl50 := BeL.trans BeL.rfl h19 BdE.rfl
  have hbi51 := BeI.trans BeI.rfl h20 BdE.rfl hin0
  have hbr48 : BeR B B7 := BeR.trans BeR.rfl h22
  have hpt49 : (okA ∧ ¬ t13 = 63) → EvQ pb.1 pb.2.1 pb.2.2.1 pb.2.2.2 (B 16) (B 17) (B 18) (B 19) (B7 16) (B7 17) (B7 18) (B7 19) Ag Ag14 pd m9 sn lo cs cs8 as9 as10 hd sl (u15 :: os) ∧ UTb u15 (nI t13) as10 wt11 wf12 := fun z => VaQ.part (B1 := B) (hev0 z.1) (h26 z.1) h23 z.2
  have hev52 := fun z => (hpt49 z).1
  have has53 : AsE as9 as10 ∧ AsE as9 wt11 ∧ AsE as9 wf12 := ⟨AsE.trans AsE.rfl h25.1, AsE.trans AsE.rfl h25.2.1, AsE.trans AsE.rfl h25.2.2⟩
  refine lv_bipush (v := 60) hx hb dX0_newArray_13 (by decide) ?_
  have hO : OKP G h0 a (upd (upd (upd (upd (upd (upd (upd (upd (upd (upd F 2 (nI sz)) 5 (nI cs)) 7 (nI hd)) 12 (nI vr)) 13 as9) 5 (nI cs8)) 13 as10) 14 wt11) 15 wf12) 2 (nI sz)) (updR (updR (updR R 2 (.ref pq)) 3 (.ref mq)) 2 (.ref pq)) Z B7 J K6 w := hO.to rfl
  obtain ⟨_, qr57, hqr58⟩ := hO.2.1 24 _ (sg_24 G h0 a _ _ _ _ _)
  refine pn_V0 (G := G) (As := [.ref q1, .int (nI t13), .int (nI 60)]) (rest := []) hx hb hml hown hq hE hX pX0_al hP hD hS hA hl.1 (Y_fit l G h0 a (upd (upd (upd (upd (upd (upd (upd (upd (upd F 2 (nI sz)) 5 (nI cs)) 7 (nI hd)) 12 (nI vr)) 13 as9) 5 (nI cs8)) 13 as10) 14 wt11) 15 wf12) (updR (updR R 2 (.ref pq)) 3 (.ref mq)) Z B7 J K6 w pq dr ml nd q1 sz t13 60 g pb (by omega) (BdE.pt hbe40 hwp hps).1 (BdE.pt hbe40 hwp hps).2.1 hf38 (by omega) hna.1.1 (NaB.be hbe40 hbf47 hwp hps.2.1 hdr0 (hbr48 11 (by decide)) hna).1.2.2 hO hl0) (gV pw_176 pw_177 pw_178 pw_63 pw_114) hV_X0_fit qr57 0 hqr58 rfl rfl rfl (Nat.le_of_ble_eq_true rfl) dX0_newArray_15 ⟨(by show 0 + 1 ≤ 1; omega), (by show 0 + 6 ≤ 6; omega)⟩ ⟨(by show 7 + 1 ≤ (5 * n + 33); omega), (by show 8 + (4 + 11) + 122 ≤ (200 * n + 560); omega)⟩ (fun v56 u54 H locs hw55 hP hD hS => ?_) (fun ux ce9 q9 H9 locs9 hux hP9 hD9 hS9 hce hcv hcl => pb_out ux (ThQ.up (Thx.same (Thx.f (Thx.f (Thx.f (Thx.f (Bth.thx hbb41) (by omega)) (by omega)) (by omega)) (by omega)) rfl) (show RhX (updR (updR R 2 (.ref pq)) 3 (.ref mq)) (updR (updR (updR R 2 (.ref pq)) 3 (.ref mq)) 2 (.ref pq)) from fun k9 hk9 => by unfold updR; simp only [show ¬ k9 = 1 by omega, show ¬ k9 = 2 by omega, show ¬ k9 = 3 by omega, show ¬ k9 = 4 by omega, if_false]) hux) hnt hlocks hce hcv hcl hP9 hD9 hS9 (by show 0 + 1 ≤ 1; omega) (by show 0 + 6 ≤ 6; omega))
  obtain ⟨w, _⟩ := u54
  obtain ⟨hw55, h59, hO⟩ := hw55
  have h59 : FtQ pb t13 60 := h59
  obtain rfl : v56 = none := hw55
  have hO : OKP G h0 a (upd (upd (upd (upd (upd (upd (upd F 2 (nI sz)) 5 (nI cs8)) 7 (nI hd)) 12 (nI vr)) 13 as10) 14 wt11) 15 wf12) (updR (updR R 2 (.ref pq)) 3 (.ref mq)) Z B7 J K6 w := hO.to rfl
  refine W.widen (k := 0) (n := 0) (by show 0 + 0 ≤ 0; omega) (by show 0 + 0 ≤ 0; omega) ?_
  refine W.eq (g2 := F0 m 18 ls []) rfl ?_
  refine lv_bipush (v := 64) hx hb dX0_newArray_18 (by decide) ?_
  refine lv_aload_n hx hb dX0_newArray_20 rfl (lv_at hl 0 rfl) ?_
  refine c_get (v := .ref (a 1)) (C := RX0) (Tc := TX0) (N := 13) (ci := 0) hx hb hq pin_wsX00 hown hE hP hO 24 (sg_24 G h0 a _ _ _ _ _) rfl 0 (by decide) (hq _ pw_4) (fun _ h9 => h9) rfl dX0_newArray_21 ?_
  refine lv_aload_n hx hb dX0_newArray_24 rfl (lv_at hl 1 rfl) ?_
  refine p_get (v := .int tk) (C := RX7) (Tc := TX7) (N := 11) (ci := 13) hx hb hq pin_wsX70 hown hE hP hO (by rw [hf35]; decide) (rep_1 hf35) rfl 1 (by decide) (hq _ pw_81) (fun _ h9 => h9) (congrArg (fun z => some (Value.int z)) hf39) dX0_newArray_25 ?_
  have hO : OKW G h0 a (upd (upd (upd (upd (upd (upd (upd (upd F 2 (nI sz)) 5 (nI cs8)) 7 (nI hd)) 12 (nI vr)) 13 as10) 14 wt11) 15 wf12) 2 (nI sz)) (updR (updR R 2 (.ref pq)) 3 (.ref mq)) Z B7 J K6.1 (fun q99 x99 => x99 = rep G a K6 q99) w := hO.to rfl
  obtain ⟨_, qr63, hqr64⟩ := hO.2.1 2 _ (sg_2 G h0 a _ _ _ _ _)
  refine pc_V0 (G := G) (As := [.int tk]) (rest := [.int 64]) hx hb hml hown hq hE hX pX0_al hP hD hS hA hl.1 (Y_typeAt l G h0 a (upd (upd (upd (upd (upd (upd (upd F 2 (nI sz)) 5 (nI cs8)) 7 (nI hd)) 12 (nI vr)) 13 as10) 14 wt11) 15 wf12) (updR (updR R 2 (.ref pq)) 3 (.ref mq)) Z B7 J K6.1 (fun q99 x99 => x99 = rep G a K6 q99) w tk sz nd (by omega) (NaB.be hbe40 hbf47 hwp hps.2.1 hdr0 (hbr48 11 (by decide)) hna).1.2.1 hO) (gV pw_92 pw_93 pw_94 pw_59 pw_36) hV_X10_typeAt qr63 7 hqr64 rfl rfl rfl (Nat.le_of_ble_eq_true rfl) dX0_newArray_28 ⟨(by show 0 + 0 ≤ 1; omega), (by show 0 + 0 ≤ 6; omega)⟩ ⟨(by show 2 + 1 ≤ (5 * n + 33); omega), (by show 8 + (2 + 11) + 60 ≤ (200 * n + 560); omega)⟩ (fun v62 u60 H locs hw61 hP hD hS => ?_)
  obtain ⟨w, _⟩ := u60
  obtain ⟨hw61, hO⟩ := hw61
  obtain rfl : v62 = some (.int (nI (tyN ((B7 11)) sz tk))) := hw61
  have hO : OKP G h0 a (upd (upd (upd (upd (upd (upd (upd F 2 (nI sz)) 5 (nI cs8)) 7 (nI hd)) 12 (nI vr)) 13 as10) 14 wt11) 15 wf12) (updR (updR R 2 (.ref pq)) 3 (.ref mq)) Z B7 J K6 w := hO.to rfl
  refine W.widen (k := 0) (n := 0) (Nat.le_of_ble_eq_true rfl) (Nat.le_of_ble_eq_true rfl) ?_
  refine W.eq (g2 := F0 m 31 ls [.int (nI (tyN ((B7 11)) sz tk)), .int 64]) rfl ?_
  obtain ⟨ty65, hty65, hvty65⟩ : ∃ z : Nat, tyN (B7 11) sz tk = z ∧ TyV nd z := ⟨_, rfl, ((NaB.be hbe40 hbf47 hwp hps.2.1 hdr0 (hbr48 11 (by decide)) hna).1.2.1).V (by omega)⟩
  rw [hty65]
  have hlty65 := (hvty65).lt hna.1.1
  refine lv_iadd hx hb dX0_newArray_31 ?_
  refine lv_topi (fun x66 e67 => ?_)
  obtain rfl : x66 = nI (64 + ty65) := e67.trans (nI_add (64) (ty65))
  refine lv_istore_n (lv' := [(2, .int (nI (64 + ty65))), (0, .ref (a 4)), (1, .ref q)]) hx hb dX0_newArray_32 rfl hl (by decide) rfl (fun ls hl => ?_)
  refine lv_aload_n hx hb dX0_newArray_33 rfl (lv_at hl 1 rfl) ?_
  refine lv_bipush (v := 22) hx hb dX0_newArray_34 (by decide) ?_
  refine lv_iload_n hx hb dX0_newArray_36 rfl (lv_at hl 0 rfl) ?_
  refine lv_iload_n hx hb dX0_newArray_37 rfl (lv_at hl 0 rfl) ?_
  have hut68 := fun z : okA => (hpt49 ⟨z, h59.1⟩).2
  have hev69 := fun z : okA => hev52 ⟨z, h59.1⟩
  have hta9 : ty65 < 62 := by rw [← hty65, hbr48 11 (by decide), ← htk]; exact hta
  have hO : OKW G h0 a (upd (upd (upd (upd (upd (upd (upd (upd (upd F 2 (nI sz)) 5 (nI cs8)) 7 (nI hd)) 12 (nI vr)) 13 as10) 14 wt11) 15 wf12) 5 (nI cs8)) 7 (nI hd)) (updR (updR R 2 (.ref pq)) 3 (.ref mq)) Z B7 J K6.1 (fun q99 x99 => x99 = rep G a K6 q99) w := hO.to rfl
  obtain ⟨_, qr73, hqr74⟩ := hO.2.1 24 _ (sg_24 G h0 a _ _ _ _ _)
  refine pc_V0 (G := G) (As := [.int 22, .int (nI (64 + ty65)), .int (nI (64 + ty65))]) (rest := []) hx hb hml hown hq hE hX pX0_al hP hD hS hA hl.1 (Y_give l G h0 a (upd (upd (upd (upd (upd (upd (upd F 2 (nI sz)) 5 (nI cs8)) 7 (nI hd)) 12 (nI vr)) 13 as10) 14 wt11) 15 wf12) (updR (updR R 2 (.ref pq)) 3 (.ref mq)) Z B7 J K6.1 (fun q99 x99 => x99 = rep G a K6 q99) w 22 (nI (64 + ty65)) (nI (64 + ty65)) cs8 hd (by omega) hO) (gV pw_158 pw_159 pw_160 pw_63 pw_128) hV_X0_give qr73 0 hqr74 rfl rfl rfl (Nat.le_of_ble_eq_true rfl) dX0_newArray_38 ⟨(by show 0 + 0 ≤ 1; omega), (by show 0 + 0 ≤ 6; omega)⟩ ⟨(by show 3 + 1 ≤ (5 * n + 33); omega), (by show 8 + (4 + 11) + 83 ≤ (200 * n + 560); omega)⟩ (fun v72 u70 H locs hw71 hP hD hS => ?_)
  obtain ⟨w, _⟩ := u70
  obtain ⟨hw71, hO⟩ := hw71
  obtain rfl : v72 = some (.int (nI (64 + ty65))) := hw71
  have hO : OKP G h0 a (upd (upd (upd (upd (upd (upd (upd F 2 (nI sz)) 5 (nI (cs8 + 1))) 7 (nI hd)) 12 (nI vr)) 13 as10) 14 wt11) 15 wf12) (updR (updR R 2 (.ref pq)) 3 (.ref mq)) Z (updA (updA (updA (updA B7 16 (upd ((B7 16)) cs8 22)) 17 (upd ((B7 17)) cs8 (nI (64 + ty65)))) 18 (upd ((B7 18)) cs8 0)) 19 (upd ((B7 19)) cs8 (nI hd))) J K6 w := hO.to rfl
  refine W.widen (k := 0) (n := 0) (Nat.le_of_ble_eq_true rfl) (Nat.le_of_ble_eq_true rfl) ?_
  refine W.eq (g2 := F0 m 41 ls [.int (nI (64 + ty65))]) rfl ?_
  have hsw75 : ∀ x9 : Nat, x9 < cs → (upd ((B7 16)) cs8 22) x9 = B 16 x9 := fun x9 hx9 => (if_neg (by omega)).trans (hsw43 x9 hx9)
  have hsw76 : ∀ x9 : Nat, x9 < cs → (upd ((B7 17)) cs8 (nI (64 + ty65))) x9 = B 17 x9 := fun x9 hx9 => (if_neg (by omega)).trans (hsw44 x9 hx9)
  have hsw77 : ∀ x9 : Nat, x9 < cs → (upd ((B7 18)) cs8 0) x9 = B 18 x9 := fun x9 hx9 => (if_neg (by omega)).trans (hsw45 x9 hx9)
  have hsw78 : ∀ x9 : Nat, x9 < cs → (upd ((B7 19)) cs8 (nI hd)) x9 = B 19 x9 := fun x9 hx9 => (if_neg (by omega)).trans (hsw46 x9 hx9)
  obtain ⟨Ag79, hev80⟩ : ∃ A5 : Nat → AS, okA → EvQ pb.1 pb.2.1 pb.2.2.1 pb.2.2.2 (B 16) (B 17) (B 18) (B 19) (upd ((B7 16)) cs8 22) (upd ((B7 17)) cs8 (nI (64 + ty65))) (upd ((B7 18)) cs8 0) (upd ((B7 19)) cs8 (nI hd)) Ag A5 pd m9 sn lo cs (cs8 + 1) as9 as10 hd sl ((64 + ty65) :: os) := ⟨(upS Ag14 (cs8 + 1) (rcA as10, hd, sl, ((64 + ty65) :: os))), fun z => (hev69 z).trans (EmS.newA (hev69 z).1 (by show os.length + 1 ≤ 248; omega) hta9)⟩
  have hng9 : Nng (upd ((B7 18)) cs8 0) := Nng.set hng42 (k := 0) (by omega)
  have hng81 := hng9
  refine W_size (fun hz1 hz2 => ?_)
  refine vx_ret ?_
  have hz82 : SmW B (updA (updA (updA (updA B7 16 (upd ((B7 16)) cs8 22)) 17 (upd ((B7 17)) cs8 (nI (64 + ty65)))) 18 (upd ((B7 18)) cs8 0)) 19 (upd ((B7 19)) cs8 (nI hd))) cs := (fun x9 hx9 => ⟨hsw75 x9 hx9, hsw76 x9 hx9, hsw77 x9 hx9, hsw78 x9 hx9⟩)
  have hz83 : BdE K K6 := hbe40
  have hz84 : BeF K K6 := hbf47
  have hz85 : BeL K K6 none := hbl50
  have hz86 : BeI K K6 g q := hbi51
  have hz87 : Bth B (updA (updA (updA (updA B7 16 (upd ((B7 16)) cs8 22)) 17 (upd ((B7 17)) cs8 (nI (64 + ty65)))) 18 (upd ((B7 18)) cs8 0)) 19 (upd ((B7 19)) cs8 (nI hd))) := (show Thx (upd (upd (upd (upd (upd F 2 (nI sz)) 5 (nI cs)) 7 (nI hd)) 12 (nI vr)) 13 as9) (upd (upd (upd (upd (upd (upd (upd (upd (upd F 2 (nI sz)) 5 (nI cs)) 7 (nI hd)) 12 (nI vr)) 13 as9) 5 (nI (cs8 + 1))) 13 as10) 14 wt11) 15 wf12) B (updA (updA (updA (updA B7 16 (upd ((B7 16)) cs8 22)) 17 (upd ((B7 17)) cs8 (nI (64 + ty65)))) 18 (upd ((B7 18)) cs8 0)) 19 (upd ((B7 19)) cs8 (nI hd))) from (Thx.b (Thx.b8 (Thx.b (Thx.b (Thx.f (Thx.f (Thx.f (Thx.f (Bth.thx hbb41) (by omega)) (by omega)) (by omega)) (by omega)) (by omega) (by decide)) (by omega) (by decide)) hng81) (by omega) (by decide))).2
  have hz88 : BeR B (updA (updA (updA (updA B7 16 (upd ((B7 16)) cs8 22)) 17 (upd ((B7 17)) cs8 (nI (64 + ty65)))) 18 (upd ((B7 18)) cs8 0)) 19 (upd ((B7 19)) cs8 (nI hd))) := (BeR.up (k := 19) (f := (upd ((B7 19)) cs8 (nI hd))) (BeR.up (k := 18) (f := (upd ((B7 18)) cs8 0)) (BeR.up (k := 17) (f := (upd ((B7 17)) cs8 (nI (64 + ty65)))) (BeR.up (k := 16) (f := (upd ((B7 16)) cs8 22)) hbr48 (by omega)) (by omega)) (by omega)) (by omega))
  have hz89 : (64 + ty65) < 128 := (by omega)
  have hz90 : cs ≤ (cs8 + 1) ∧ (cs8 + 1) + 0 ≤ cs + 2 * tlE g q := (by omega)
  have hz91 : AsE as9 as10 := has53.1
  have hz92 : okA → PlQ pb B (updA (updA (updA (updA B7 16 (upd ((B7 16)) cs8 22)) 17 (upd ((B7 17)) cs8 (nI (64 + ty65)))) 18 (upd ((B7 18)) cs8 0)) 19 (upd ((B7 19)) cs8 (nI hd))) Ag Ag79 pd m9 sn lo cs (cs8 + 1) as9 as10 hd sl os (64 + ty65) (K.2.1 0 q) := (fun z => Or.inr ⟨by rw [rsO_ne (by omega)]; exact hev80 z, by omega⟩)
  have hO : OKP G h0 a (upd (upd (upd (upd (upd (upd (upd F 2 (nI sz)) 5 (nI (cs8 + 1))) 7 (nI hd)) 12 (nI vr)) 13 as10) 14 wt11) 15 wf12) (updR (updR R 2 (.ref pq)) 3 (.ref mq)) Z (updA (updA (updA (updA B7 16 (upd ((B7 16)) cs8 22)) 17 (upd ((B7 17)) cs8 (nI (64 + ty65)))) 18 (upd ((B7 18)) cs8 0)) 19 (upd ((B7 19)) cs8 (nI hd))) J K6 w := hO.to rfl
  refine W.widen (k := 1) (n := 6) (by omega) (by omega) ?_
  have hzz1 : H.size ≤ s.heap.size + (0) := (by have z : 0 ≤ 0 := (by omega); omega)
  have hzz2 : hSl H ≤ hSl s.heap + (0) := (by have z : 0 ≤ 0 := (by omega); omega)
  exact W.iret (v := (nI (64 + ty65))) hx hb hr (fun t99 ht99 hW99 => ⟨⟨_, (w, (K6, (updA (updA (updA (updA B7 16 (upd ((B7 16)) cs8 22)) 17 (upd ((B7 17)) cs8 (nI (64 + ty65)))) 18 (upd ((B7 18)) cs8 0)) 19 (upd ((B7 19)) cs8 (nI hd))), (cs8 + 1), as10, wt11, wf12, (64 + ty65), Ag79)), rfl, ⟨rfl, hz82, hz83, hz84, hz85, hz86, hz87, hz88, hz89, hz90, hz91, hz92, hO⟩, by rw [ht99]; exact hP, hD, by rw [ht99]; exact hzz1, by rw [ht99]; exact hzz2⟩, hS.F ht99⟩) hS.2.2 dX0_newArray_41
set_option maxHeartbeats 24000000 in
set_option maxRecDepth 100000 in
theorem Y_element (l : Launch) (G : pT) (h0 : Nat) (a : Nat → Nat) (F : Nat → Int32) (R : Nat → Value) (Z : Int64) (B : Nat → Nat → Int32) (J : Nat → Nat → Int64) (K : PK) (w : va_W) (pq : Nat) (dr : Nat) (ml : Nat) (nd : Nat) (nm : Nat) (cp : Nat) (it : Nat → Nat) (s9 : Nat) (q : Nat) (mq : Nat) (cs : Nat) (vr : Nat) (sz : Nat) (n : Nat) (q1 : Nat) (q2 : Nat) (g : Nat → Nat → Nat) (rk : Nat → Nat) (pb : PNb) (Ag : Nat → AS) (pd : Nat → Prop) (sl : Nat → Nat) (os : List Nat) (m9 : Nat) (sn : Nat) (lo : Nat) (hd : Nat) (c0 : Nat) (as9 : Int32) (okA : Prop) (hsz : sz ≤ 5000) (hwp : WPr G K g) (hps : PgT G K g (a 1) pq dr ml nd nm cp it s9) (hrk : RkO K rk) (hcs : cs ≤ 10000) (hvr : vr ≤ 30) (hng : Nng (B 18)) (hmq : K.1 mq = 3) (hqT : K.1 q = 1) (hqL : 1 ≤ g 0 q ∧ g 0 q ≤ n) (hek : EkA pb K g (B 7) (B 11) sz) (hcO : OwC K dr mq c0) (hna : NaB pb G K (B 11) dr nd sz) (hen : EnV (B 26) (B 27) nd vr hd c0 sl) (hem : okA → EmB pb B Ag pd m9 sn lo cs as9 hd sl os) (hrm : cs + 2 * tlE g q ≤ 10000) (hop : os.length + ndE g q ≤ 248) (hlf : 1 ≤ tlE g q ∧ 1 ≤ ndE g q) (hc0 : K.2.2.1 0 q = some q1) (ht0 : K.1 q1 = 1) (hv0 : 1 ≤ g 0 q1 ∧ g 0 q1 + 1 ≤ n) (hlf0 : 1 ≤ tlE g q1 ∧ 1 ≤ ndE g q1) (hin0 : InE g q q1) (hc1 : K.2.2.1 1 q = some q2) (ht1 : K.1 q2 = 1) (hv1 : 1 ≤ g 0 q2 ∧ g 0 q2 + 1 ≤ n) (hlf1 : 1 ≤ tlE g q2 ∧ 1 ≤ ndE g q2) (hin1 : InE g q q2) (htl : tlE g q1 + tlE g q2 + 1 ≤ tlE g q) (hnd0 : ndE g q1 ≤ ndE g q) (hnd1 : ndE g q2 + 1 ≤ ndE g q) (ihv : IhY l G n) (hO : OKP G h0 a (upd (upd (upd (upd (upd F 2 (nI sz)) 5 (nI cs)) 7 (nI hd)) 12 (nI vr)) 13 as9) (updR (updR R 2 (.ref pq)) 3 (.ref mq)) Z B J K w) (hl0 : l.stackTraces = false) : PBn l G pX0 yX0_element cX0_element 3 (some .int) ({ frames := (5 * n + 33), cells := 1, slots := 6, locals := (200 * n + 560) }) [.ref (a 4), .ref q] w (fun (v : Option Value) (u : va_W × (PK × (Nat → Nat → Int32) × Nat × Int32 × Int32 × Int32 × Nat × (Nat → AS) × Nat)) => v = some (.int (nI u.2.2.2.2.2.2.2.1)) ∧ (SmW B u.2.2.1 cs) ∧ (BdE K u.2.1) ∧ (BeF K u.2.1) ∧ (BeL K u.2.1 none) ∧ (BeI K u.2.1 g q) ∧ (Bth B u.2.2.1) ∧ (BeR B u.2.2.1) ∧ (u.2.2.2.2.2.2.2.1 < 128) ∧ (cs ≤ u.2.2.2.1 ∧ u.2.2.2.1 + 2 ≤ cs + 2 * tlE g q) ∧ (AsE as9 u.2.2.2.2.1) ∧ (okA → EvB pb B u.2.2.1 Ag u.2.2.2.2.2.2.2.2.1 pd m9 sn lo cs u.2.2.2.1 as9 u.2.2.2.2.1 hd sl (u.2.2.2.2.2.2.2.2.2 :: (u.2.2.2.2.2.2.2.1 + 64) :: os)) ∧ (u.2.2.2.2.2.2.2.1 < 64) ∧ (OKP G h0 a (upd (upd (upd (upd (upd (upd (upd F 2 (nI sz)) 5 (nI u.2.2.2.1)) 7 (nI hd)) 12 (nI vr)) 13 u.2.2.2.2.1) 14 u.2.2.2.2.2.1) 15 u.2.2.2.2.2.2.1) (updR (updR R 2 (.ref pq)) 3 (.ref mq)) Z u.2.2.1 J u.2.1 u.1)) (fun u => u.1) (fun (u : va_W × (PK × (Nat → Nat → Int32) × Nat × Int32 × Int32 × Int32 × Nat × (Nat → AS) × Nat)) => 0) (fun (u : va_W × (PK × (Nat → Nat → Int32) × Nat × Int32 × Int32 × Int32 × Nat × (Nat → AS) × Nat)) => 0) (fun (u : va_W × (Nat → Int32) × (Nat → Value) × (Nat → Nat → Int32)) => ThQ G h0 a (upd (upd (upd (upd (upd F 2 (nI sz)) 5 (nI cs)) 7 (nI hd)) 12 (nI vr)) 13 as9) (updR (updR R 2 (.ref pq)) 3 (.ref mq)) Z B J u) (fun u => u.1) := by
  intro sz
  refine vx_ofW (cc := cX0_element) (maxL := 3) (ret := (some .int)) (by decide) rfl ?_
  intro p e s m args below meth c s₁ B9 hml hnt hv
  obtain ⟨rfl, hsz, hP, hD0, hE, hX⟩ := hv
  have hx := B9.exec
  have hb := B9.bytes
  have hr := B9.returns
  have hts := atoms_spec (ws := Cond.code yX0_element cX0_element 3 (some .int) :: pw) B9.pre
  have hq : ∀ w ∈ pw, w.before _ s = true := fun w h => hts w (List.mem_cons_of_mem _ h)
  have hown : s.vm.findClass RX0 = some m.cls := findClass_of_methodNamed B9.named
  have hlocks := B9.notSynchronized
  subst hsz
  have hD := hD0.self (sz := s.heap.size)
  have hA : ∀ q : Nat, s.heap.size ≤ q → va_A w s.heap.size q := fun q h => Or.inr h
  generalize va_A w s.heap.size = A at hD hE hA ⊢
  have hS : va_S A s.heap s.heap [] := va_S.rf
  have hl := lv_entry ([.ref (a 4), .ref q]) (n := 3) (Nat.le_of_ble_eq_true rfl)
  rw [lg_entry_eq]
  generalize (lg_sl ([.ref (a 4), .ref q]) ++ List.replicate (3 - (lg_sl ([.ref (a 4), .ref q])).length) Slot.unset).toArray = ls at hl ⊢
  have hl : lv_has ls 3 [(0, .ref (a 4)), (1, .ref q)] := hl
  have hpg := hps.1
  have hp1 := hpg.1
  have hp2 := hpg.2.1
  have hp3 := hpg.2.2.1
  have hp4 := hpg.2.2.2.1
  have hp5 := hpg.2.2.2.2.1
  have hp6 := hpg.2.2.2.2.2.1
  have hp8 := hpg.2.2.2.2.2.2.2.1
  have hp9 := hpg.2.2.2.2.2.2.2.2
  have hdr0 : ¬ K.1 dr = 0 := by rw [hp4]; decide
  have hev0 : okA → EvQ pb.1 pb.2.1 pb.2.2.1 pb.2.2.2 (B 16) (B 17) (B 18) (B 19) (B 16) (B 17) (B 18) (B 19) Ag Ag pd m9 sn lo cs cs as9 as9 hd sl os := fun z => EvB.nil (hem z)
  refine lv_aload_n hx hb dX0_element_0 rfl (lv_at hl 0 rfl) ?_
  refine lv_aload_n hx hb dX0_element_1 rfl (lv_at hl 1 rfl) ?_
  refine p_get (v := .ref q1) (C := RX7) (Tc := TX7) (N := 11) (ci := 13) hx hb hq pin_wsX70 hown hE hP hO (by rw [hqT]; decide) (rep_1 hqT) rfl 6 (by decide) (hq _ pw_180) (fun _ h9 => h9) (congrArg (fun z => some (va_rf z)) hc0) dX0_element_2 ?_
  refine lv_aload_n hx hb dX0_element_5 rfl (lv_at hl 0 rfl) ?_
  refine lv_aload_n hx hb dX0_element_6 rfl (lv_at hl 1 rfl) ?_
  refine p_get (v := .ref q1) (C := RX7) (Tc := TX7) (N := 11) (ci := 13) hx hb hq pin_wsX70 hown hE hP hO (by rw [hqT]; decide) (rep_1 hqT) rfl 6 (by decide) (hq _ pw_180) (fun _ h9 => h9) (congrArg (fun z => some (va_rf z)) hc0) dX0_element_7 ?_
  have hO : OKP G h0 a (upd (upd (upd (upd (upd (upd (upd (upd (upd (upd F 2 (nI sz)) 5 (nI cs)) 7 (nI hd)) 12 (nI vr)) 13 as9) 2 (nI sz)) 5 (nI cs)) 7 (nI hd)) 12 (nI vr)) 13 as9) (updR (updR (updR (updR R 2 (.ref pq)) 3 (.ref mq)) 2 (.ref pq)) 3 (.ref mq)) Z B J K w := hO.to rfl
  obtain ⟨_, qr4, hqr5⟩ := hO.2.1 24 _ (sg_24 G h0 a _ _ _ _ _)
  refine pn_V0 (G := G) (As := [.ref q1]) (rest := [.ref q1, .ref (a 4)]) hx hb hml hown hq hE hX pX0_al hP hD hS hA hl.1 ((ihv (by omega)) h0 a (upd (upd (upd (upd (upd F 2 (nI sz)) 5 (nI cs)) 7 (nI hd)) 12 (nI vr)) 13 as9) (updR (updR R 2 (.ref pq)) 3 (.ref mq)) Z B J K w pq dr ml nd nm cp it s9 q1 mq cs vr sz g rk pb Ag pd sl os m9 sn lo hd c0 as9 okA (by omega) (BdE.wp BdE.rfl hwp) (BdE.pt BdE.rfl hwp hps) (BdE.rko BdE.rfl hrk) (by omega) (by omega) hng hmq ht0 ⟨hv0.1, (by have z9 := hv0; omega)⟩ (EkA.be BdE.rfl (BeR.rfl 7 (by decide)) (BeR.rfl 11 (by decide)) hek) (OwC.be BdE.rfl hmq hdr0 hcO) (NaB.be BdE.rfl BeF.rfl hwp hps.2.1 hdr0 (BeR.rfl 11 (by decide)) hna) (EnV.of (BeR.rfl 26 (by decide)) (BeR.rfl 27 (by decide)) hen) (fun z => (hev0 z).1) (by omega) (by show os.length + ndE g q1 ≤ 248; omega) hlf0 hO hl0) (gV pw_173 pw_174 pw_175 pw_63 pw_224) hV_X0_value qr4 0 hqr5 rfl rfl rfl (Nat.le_of_ble_eq_true rfl) dX0_element_10 ⟨(by show 0 + 1 ≤ 1; omega), (by show 0 + 6 ≤ 6; omega)⟩ ⟨(by show (5 * (n - 1) + 34) + 1 ≤ (5 * n + 33); omega), (by show 8 + (3 + 11) + (200 * (n - 1) + 600) ≤ (200 * n + 560); omega)⟩ (fun v3 u1 H locs hw2 hP hD hS => ?_) (fun ux ce9 q9 H9 locs9 hux hP9 hD9 hS9 hce hcv hcl => pb_out ux (ThQ.up (Thx.same (Thx.same (Thx.same (Thx.same (Thx.same Thx.rfl rfl) rfl) rfl) rfl) rfl) (show RhX (updR (updR R 2 (.ref pq)) 3 (.ref mq)) (updR (updR (updR (updR R 2 (.ref pq)) 3 (.ref mq)) 2 (.ref pq)) 3 (.ref mq)) from fun k9 hk9 => by unfold updR; simp only [show ¬ k9 = 1 by omega, show ¬ k9 = 2 by omega, show ¬ k9 = 3 by omega, show ¬ k9 = 4 by omega, if_false]) hux) hnt hlocks hce hcv hcl hP9 hD9 hS9 (by show 0 + 1 ≤ 1; omega) (by show 0 + 6 ≤ 6; omega))
  obtain ⟨w, K6, B7, cs8, as10, wt11, wf12, t13, Ag14, u15⟩ := u1
  obtain ⟨hw2, h16, h17, h18, h19, h20, h21, h22, h23, h24, h25, h26, h27, hO⟩ := hw2
  have h16 : SmW B B7 cs := h16
  have h17 : BdE K K6 := h17
  have h18 : BeF K K6 := h18
  have h19 : BeL K K6 none := h19
  have h20 : BeI K K6 g q1 := h20
  have h21 : Bth B B7 := h21
  have h22 : BeR B B7 := h22
  have h23 : t13 < 128 := h23
  have h24 : cs ≤ cs8 ∧ cs8 + 0 ≤ cs + 2 * tlE g q1 := h24
  have h25 : AsE as9 as10 ∧ AsE as9 wt11 ∧ AsE as9 wf12 := h25
  have h26 : okA → VaQ pb B B7 Ag Ag14 pd m9 sn lo cs cs8 as9 as10 wt11 wf12 hd sl os t13 u15 (K.2.1 0 q1) := h26
  have h27 : CaK (K.2.1 0 q1) → cs8 + 2 ≤ cs + 2 * tlE g q1 := h27
  obtain rfl : v3 = some (.int (nI t13)) := hw2
  have hf28 : K6.1 pq = 7 := (BdE.T h17 hp1 (by decide))
  have hf29 : K6.2.2.1 18 pq = some (a 1) := (BdE.C h17 (by rw [hp1]; decide) 18).trans hp2
  have hf30 : K6.2.2.1 14 pq = some dr := (BdE.C h17 (by rw [hp1]; decide) 14).trans hp3
  have hf31 : K6.1 dr = 8 := (BdE.T h17 hp4 (by decide))
  have hf32 : K6.2.2.1 15 pq = some ml := (BdE.C h17 (by rw [hp1]; decide) 15).trans hp5
  have hf33 : K6.1 ml = 5 := (BdE.T h17 hp6 (by decide))
  have hf34 : K6.2.1 24 pq = (nI nd) := (BdE.I h17 (by rw [hp1]; decide) (by decide) (by decide)).trans hp8
  have hf35 : K6.1 q = 1 := (BdE.T h17 hqT (by decide))
  have hf36 : K6.1 mq = 3 := (BdE.T h17 hmq (by decide))
  have hf37 : K6.2.2.1 0 q = some q1 := (BdE.C h17 (by rw [hqT]; decide) 0).trans hc0
  have hf38 : K6.1 q1 = 1 := (BdE.T h17 ht0 (by decide))
  have hf39 : K6.2.2.1 1 q = some q2 := (BdE.C h17 (by rw [hqT]; decide) 1).trans hc1
  have hf40 : K6.1 q2 = 1 := (BdE.T h17 ht1 (by decide))
  have hO : OKP G h0 a (upd (upd (upd (upd (upd (upd (upd F 2 (nI sz)) 5 (nI cs8)) 7 (nI hd)) 12 (nI vr)) 13 as10) 14 wt11) 15 wf12) (updR (updR R 2 (.ref pq)) 3 (.ref mq)) Z B7 J K6 w := hO.to rfl
  refine W.widen (k := 0) (n := 0) (by show 0 + 0 ≤ 0; omega) (by show 0 + 0 ≤ 0; omega) ?_
  refine W.eq (g2 := F0 m 13 ls [.int (nI t13), .ref q1, .ref (a 4)]) rfl ?_
  have hbe41 := BdE.trans BdE.rfl h17
  have hbb42 : Bth B B7 := Bth.trans (show Thx (upd (upd (upd (upd (upd F 2 (nI sz)) 5 (nI cs)) 7 (nI hd)) 12 (nI vr)) 13 as9) (upd (upd (upd (upd (upd F 2 (nI sz)) 5 (nI cs)) 7 (nI hd)) 12 (nI vr)) 13 as9) B B from Thx.rfl).2 h21
  have hng43 : Nng (B7 18) := h21.2 hng
  have hsw44 : ∀ x9 : Nat, x9 < cs → (B7 16) x9 = B 16 x9 := fun x9 hx9 => ((h16 x9 (by omega)).1).trans ((fun _ _ => rfl) x9 hx9)
  have hsw45 : ∀ x9 : Nat, x9 < cs → (B7 17) x9 = B 17 x9 := fun x9 hx9 => ((h16 x9 (by omega)).2.1).trans ((fun _ _ => rfl) x9 hx9)
  have hsw46 : ∀ x9 : Nat, x9 < cs → (B7 18) x9 = B 18 x9 := fun x9 hx9 => ((h16 x9 (by omega)).2.2.1).trans ((fun _ _ => rfl) x9 hx9)
  have hsw47 : ∀ x9 : Nat, x9 < cs → (B7 19) x9 = B 19 x9 := fun x9 hx9 => ((h16 x9 (by omega)).2.2.2).trans ((fun _ _ => rfl) x9 hx9)
  have hbf48 := BeF.trans BeF.rfl h18 BdE.rfl
  have hbl51 := BeL.trans BeL.rfl h19 BdE.rfl
  have hbi52 := BeI.trans BeI.rfl h20 BdE.rfl hin0
  have hbr49 : BeR B B7 := BeR.trans BeR.rfl h22
  have hpt50 : (okA ∧ ¬ t13 = 63) → EvQ pb.1 pb.2.1 pb.2.2.1 pb.2.2.2 (B 16) (B 17) (B 18) (B 19) (B7 16) (B7 17) (B7 18) (B7 19) Ag Ag14 pd m9 sn lo cs cs8 as9 as10 hd sl (u15 :: os) ∧ UTb u15 (nI t13) as10 wt11 wf12 := fun z => VaQ.part (B1 := B) (hev0 z.1) (h26 z.1) h23 z.2
  have hev53 := fun z => (hpt50 z).1
  have has54 : AsE as9 as10 ∧ AsE as9 wt11 ∧ AsE as9 wf12 := ⟨AsE.trans AsE.rfl h25.1, AsE.trans AsE.rfl h25.2.1, AsE.trans AsE.rfl h25.2.2⟩
  have hO : OKP G h0 a (upd (upd (upd (upd (upd (upd (upd (upd (upd (upd F 2 (nI sz)) 5 (nI cs)) 7 (nI hd)) 12 (nI vr)) 13 as9) 5 (nI cs8)) 13 as10) 14 wt11) 15 wf12) 2 (nI sz)) (updR (updR R 2 (.ref pq)) 3 (.ref mq)) Z B7 J K6 w := hO.to rfl
  obtain ⟨_, qr58, hqr59⟩ := hO.2.1 24 _ (sg_24 G h0 a _ _ _ _ _)
  refine pn_V0 (G := G) (As := [.ref q1, .int (nI t13)]) (rest := []) hx hb hml hown hq hE hX pX0_al hP hD hS hA hl.1 (Y_elementType l G h0 a (upd (upd (upd (upd (upd (upd (upd (upd (upd F 2 (nI sz)) 5 (nI cs)) 7 (nI hd)) 12 (nI vr)) 13 as9) 5 (nI cs8)) 13 as10) 14 wt11) 15 wf12) (updR (updR R 2 (.ref pq)) 3 (.ref mq)) Z B7 J K6 w q1 sz t13 (by omega) hf38 (by omega) hO hl0) (gV pw_207 pw_208 pw_209 pw_63 pw_137) hV_X0_elementType qr58 0 hqr59 rfl rfl rfl (Nat.le_of_ble_eq_true rfl) dX0_element_13 ⟨(by show 0 + 1 ≤ 1; omega), (by show 0 + 6 ≤ 6; omega)⟩ ⟨(by show 7 + 1 ≤ (5 * n + 33); omega), (by show 8 + (3 + 11) + 122 ≤ (200 * n + 560); omega)⟩ (fun v57 u55 H locs hw56 hP hD hS => ?_) (fun ux ce9 q9 H9 locs9 hux hP9 hD9 hS9 hce hcv hcl => pb_out ux (ThQ.up (Thx.same (Thx.f (Thx.f (Thx.f (Thx.f (Bth.thx hbb42) (by omega)) (by omega)) (by omega)) (by omega)) rfl) RhX.rfl hux) hnt hlocks hce hcv hcl hP9 hD9 hS9 (by show 0 + 1 ≤ 1; omega) (by show 0 + 6 ≤ 6; omega))
  obtain ⟨w, _⟩ := u55
  obtain ⟨hw56, h60, hO⟩ := hw56
  have h60 : 64 ≤ t13 := h60
  obtain rfl : v57 = some (.int (nI (t13 - 64))) := hw56
  have hO : OKP G h0 a (upd (upd (upd (upd (upd (upd (upd F 2 (nI sz)) 5 (nI cs8)) 7 (nI hd)) 12 (nI vr)) 13 as10) 14 wt11) 15 wf12) (updR (updR R 2 (.ref pq)) 3 (.ref mq)) Z B7 J K6 w := hO.to rfl
  refine W.widen (k := 0) (n := 0) (by show 0 + 0 ≤ 0; omega) (by show 0 + 0 ≤ 0; omega) ?_
  refine W.eq (g2 := F0 m 16 ls [.int (nI (t13 - 64))]) rfl ?_
  refine lv_istore_n (lv' := [(2, .int (nI (t13 - 64))), (0, .ref (a 4)), (1, .ref q)]) hx hb dX0_element_16 rfl hl (by decide) rfl (fun ls hl => ?_)
  refine lv_aload_n hx hb dX0_element_17 rfl (lv_at hl 1 rfl) ?_
  refine lv_aload_n hx hb dX0_element_18 rfl (lv_at hl 2 rfl) ?_
  refine p_get (v := .ref q2) (C := RX7) (Tc := TX7) (N := 11) (ci := 13) hx hb hq pin_wsX70 hown hE hP hO (by rw [hf35]; decide) (rep_1 hf35) rfl 7 (by decide) (hq _ pw_169) (fun _ h9 => h9) (congrArg (fun z => some (va_rf z)) hf39) dX0_element_19 ?_
  refine lv_aload_n hx hb dX0_element_22 rfl (lv_at hl 1 rfl) ?_
  refine lv_aload_n hx hb dX0_element_23 rfl (lv_at hl 2 rfl) ?_
  refine p_get (v := .ref q2) (C := RX7) (Tc := TX7) (N := 11) (ci := 13) hx hb hq pin_wsX70 hown hE hP hO (by rw [hf35]; decide) (rep_1 hf35) rfl 7 (by decide) (hq _ pw_169) (fun _ h9 => h9) (congrArg (fun z => some (va_rf z)) hf39) dX0_element_24 ?_
  have hO : OKP G h0 a (upd (upd (upd (upd (upd (upd (upd (upd (upd (upd (upd (upd (upd (upd F 2 (nI sz)) 5 (nI cs)) 7 (nI hd)) 12 (nI vr)) 13 as9) 5 (nI cs8)) 13 as10) 14 wt11) 15 wf12) 2 (nI sz)) 5 (nI cs8)) 7 (nI hd)) 12 (nI vr)) 13 as10) (updR (updR (updR (updR R 2 (.ref pq)) 3 (.ref mq)) 2 (.ref pq)) 3 (.ref mq)) Z B7 J K6 w := hO.to rfl
  obtain ⟨_, qr64, hqr65⟩ := hO.2.1 24 _ (sg_24 G h0 a _ _ _ _ _)
  refine pn_V0 (G := G) (As := [.ref q2]) (rest := [.ref q2, .ref (a 4)]) hx hb hml hown hq hE hX pX0_al hP hD hS hA hl.1 ((ihv (by omega)) h0 a (upd (upd (upd (upd (upd (upd (upd (upd (upd F 2 (nI sz)) 5 (nI cs)) 7 (nI hd)) 12 (nI vr)) 13 as9) 5 (nI cs8)) 13 as10) 14 wt11) 15 wf12) (updR (updR R 2 (.ref pq)) 3 (.ref mq)) Z B7 J K6 w pq dr ml nd nm cp it s9 q2 mq cs8 vr sz g rk pb Ag14 pd sl (u15 :: os) m9 sn lo hd c0 as10 (okA ∧ ¬ t13 = 63) (by omega) (BdE.wp hbe41 hwp) (BdE.pt hbe41 hwp hps) (BdE.rko hbe41 hrk) (by omega) (by omega) hng43 hf36 hf40 ⟨hv1.1, (by have z9 := hv1; omega)⟩ (EkA.be hbe41 (hbr49 7 (by decide)) (hbr49 11 (by decide)) hek) (OwC.be hbe41 hmq hdr0 hcO) (NaB.be hbe41 hbf48 hwp hps.2.1 hdr0 (hbr49 11 (by decide)) hna) (EnV.of (hbr49 26 (by decide)) (hbr49 27 (by decide)) hen) (fun z => (hev53 z).1) (by omega) (by show os.length + 1 + ndE g q2 ≤ 248; omega) hlf1 hO hl0) (gV pw_173 pw_174 pw_175 pw_63 pw_224) hV_X0_value qr64 0 hqr65 rfl rfl rfl (Nat.le_of_ble_eq_true rfl) dX0_element_27 ⟨(by show 0 + 1 ≤ 1; omega), (by show 0 + 6 ≤ 6; omega)⟩ ⟨(by show (5 * (n - 1) + 34) + 1 ≤ (5 * n + 33); omega), (by show 8 + (3 + 11) + (200 * (n - 1) + 600) ≤ (200 * n + 560); omega)⟩ (fun v63 u61 H locs hw62 hP hD hS => ?_) (fun ux ce9 q9 H9 locs9 hux hP9 hD9 hS9 hce hcv hcl => pb_out ux (ThQ.up (Thx.same (Thx.same (Thx.same (Thx.same (Thx.same (Thx.f (Thx.f (Thx.f (Thx.f (Bth.thx hbb42) (by omega)) (by omega)) (by omega)) (by omega)) rfl) rfl) rfl) rfl) rfl) (show RhX (updR (updR R 2 (.ref pq)) 3 (.ref mq)) (updR (updR (updR (updR R 2 (.ref pq)) 3 (.ref mq)) 2 (.ref pq)) 3 (.ref mq)) from fun k9 hk9 => by unfold updR; simp only [show ¬ k9 = 1 by omega, show ¬ k9 = 2 by omega, show ¬ k9 = 3 by omega, show ¬ k9 = 4 by omega, if_false]) hux) hnt hlocks hce hcv hcl hP9 hD9 hS9 (by show 0 + 1 ≤ 1; omega) (by show 0 + 6 ≤ 6; omega))
  obtain ⟨w, K66, B67, cs68, as69, wt70, wf71, t72, Ag73, u74⟩ := u61
  obtain ⟨hw62, h75, h76, h77, h78, h79, h80, h81, h82, h83, h84, h85, h86, hO⟩ := hw62
  have h75 : SmW B7 B67 cs8 := h75
  have h76 : BdE K6 K66 := h76
  have h77 : BeF K6 K66 := h77
  have h78 : BeL K6 K66 none := h78
  have h79 : BeI K6 K66 g q2 := h79
  have h80 : Bth B7 B67 := h80
  have h81 : BeR B7 B67 := h81
  have h82 : t72 < 128 := h82
  have h83 : cs8 ≤ cs68 ∧ cs68 + 0 ≤ cs8 + 2 * tlE g q2 := h83
  have h84 : AsE as10 as69 ∧ AsE as10 wt70 ∧ AsE as10 wf71 := h84
  have h85 : (okA ∧ ¬ t13 = 63) → VaQ pb B7 B67 Ag14 Ag73 pd m9 sn lo cs8 cs68 as10 as69 wt70 wf71 hd sl (u15 :: os) t72 u74 (K6.2.1 0 q2) := h85
  have h86 : CaK (K6.2.1 0 q2) → cs68 + 2 ≤ cs8 + 2 * tlE g q2 := h86
  obtain rfl : v63 = some (.int (nI t72)) := hw62
  have hf87 : K66.1 pq = 7 := (BdE.T h76 hf28 (by decide))
  have hf88 : K66.2.2.1 18 pq = some (a 1) := (BdE.C h76 (by rw [hf28]; decide) 18).trans hf29
  have hf89 : K66.2.2.1 14 pq = some dr := (BdE.C h76 (by rw [hf28]; decide) 14).trans hf30
  have hf90 : K66.1 dr = 8 := (BdE.T h76 hf31 (by decide))
  have hf91 : K66.2.2.1 15 pq = some ml := (BdE.C h76 (by rw [hf28]; decide) 15).trans hf32
  have hf92 : K66.1 ml = 5 := (BdE.T h76 hf33 (by decide))
  have hf93 : K66.2.1 24 pq = (nI nd) := (BdE.I h76 (by rw [hf28]; decide) (by decide) (by decide)).trans hf34
  have hf94 : K66.1 q = 1 := (BdE.T h76 hf35 (by decide))
  have hf95 : K66.1 mq = 3 := (BdE.T h76 hf36 (by decide))
  have hf96 : K66.2.2.1 0 q = some q1 := (BdE.C h76 (by rw [hf35]; decide) 0).trans hf37
  have hf97 : K66.1 q1 = 1 := (BdE.T h76 hf38 (by decide))
  have hf98 : K66.2.2.1 1 q = some q2 := (BdE.C h76 (by rw [hf35]; decide) 1).trans hf39
  have hf99 : K66.1 q2 = 1 := (BdE.T h76 hf40 (by decide))
  have hO : OKP G h0 a (upd (upd (upd (upd (upd (upd (upd F 2 (nI sz)) 5 (nI cs68)) 7 (nI hd)) 12 (nI vr)) 13 as69) 14 wt70) 15 wf71) (updR (updR R 2 (.ref pq)) 3 (.ref mq)) Z B67 J K66 w := hO.to rfl
  refine W.widen (k := 0) (n := 0) (by show 0 + 0 ≤ 0; omega) (by show 0 + 0 ≤ 0; omega) ?_
  refine W.eq (g2 := F0 m 30 ls [.int (nI t72), .ref q2, .ref (a 4)]) rfl ?_
  have hbe100 := BdE.trans hbe41 h76
  have hbb101 : Bth B B67 := Bth.trans (show Thx (upd (upd (upd (upd (upd F 2 (nI sz)) 5 (nI cs)) 7 (nI hd)) 12 (nI vr)) 13 as9) (upd (upd (upd (upd (upd (upd (upd (upd (upd F 2 (nI sz)) 5 (nI cs)) 7 (nI hd)) 12 (nI vr)) 13 as9) 5 (nI cs8)) 13 as10) 14 wt11) 15 wf12) B B7 from (Thx.f (Thx.f (Thx.f (Thx.f (Bth.thx hbb42) (by omega)) (by omega)) (by omega)) (by omega))).2 h80
  have hng102 : Nng (B67 18) := h80.2 hng43
  have hsw103 : ∀ x9 : Nat, x9 < cs → (B67 16) x9 = B 16 x9 := fun x9 hx9 => ((h75 x9 (by omega)).1).trans (hsw44 x9 hx9)
  have hsw104 : ∀ x9 : Nat, x9 < cs → (B67 17) x9 = B 17 x9 := fun x9 hx9 => ((h75 x9 (by omega)).2.1).trans (hsw45 x9 hx9)
  have hsw105 : ∀ x9 : Nat, x9 < cs → (B67 18) x9 = B 18 x9 := fun x9 hx9 => ((h75 x9 (by omega)).2.2.1).trans (hsw46 x9 hx9)
  have hsw106 : ∀ x9 : Nat, x9 < cs → (B67 19) x9 = B 19 x9 := fun x9 hx9 => ((h75 x9 (by omega)).2.2.2).trans (hsw47 x9 hx9)
  have hbf107 := BeF.trans hbf48 h77 hbe41
  have hbl110 := BeL.trans hbl51 h78 hbe41
  have hbi111 := BeI.trans hbi52 h79 hbe41 hin1
  have hbr108 : BeR B B67 := BeR.trans hbr49 h81
  have hpt109 : ((okA ∧ ¬ t13 = 63) ∧ ¬ t72 = 63) → EvQ pb.1 pb.2.1 pb.2.2.1 pb.2.2.2 (B 16) (B 17) (B 18) (B 19) (B67 16) (B67 17) (B67 18) (B67 19) Ag Ag73 pd m9 sn lo cs cs68 as9 as69 hd sl (u74 :: (u15 :: os)) ∧ UTb u74 (nI t72) as69 wt70 wf71 := fun z => VaQ.part (B1 := B7) (hev53 z.1) (h85 z.1) h82 z.2
  have hev112 := fun z => (hpt109 z).1
  have has113 : AsE as9 as69 ∧ AsE as9 wt70 ∧ AsE as9 wf71 := ⟨AsE.trans has54.1 h84.1, AsE.trans has54.1 h84.2.1, AsE.trans has54.1 h84.2.2⟩
  refine lv_bipush (v := 60) hx hb dX0_element_30 (by decide) ?_
  have hO : OKP G h0 a (upd (upd (upd (upd (upd (upd (upd (upd (upd (upd F 2 (nI sz)) 5 (nI cs)) 7 (nI hd)) 12 (nI vr)) 13 as9) 5 (nI cs68)) 13 as69) 14 wt70) 15 wf71) 2 (nI sz)) (updR (updR (updR R 2 (.ref pq)) 3 (.ref mq)) 2 (.ref pq)) Z B67 J K66 w := hO.to rfl
  obtain ⟨_, qr117, hqr118⟩ := hO.2.1 24 _ (sg_24 G h0 a _ _ _ _ _)
  refine pn_V0 (G := G) (As := [.ref q2, .int (nI t72), .int (nI 60)]) (rest := []) hx hb hml hown hq hE hX pX0_al hP hD hS hA hl.1 (Y_fit l G h0 a (upd (upd (upd (upd (upd (upd (upd (upd (upd F 2 (nI sz)) 5 (nI cs)) 7 (nI hd)) 12 (nI vr)) 13 as9) 5 (nI cs68)) 13 as69) 14 wt70) 15 wf71) (updR (updR R 2 (.ref pq)) 3 (.ref mq)) Z B67 J K66 w pq dr ml nd q2 sz t72 60 g pb (by omega) (BdE.pt hbe100 hwp hps).1 (BdE.pt hbe100 hwp hps).2.1 hf99 (by omega) hna.1.1 (NaB.be hbe100 hbf107 hwp hps.2.1 hdr0 (hbr108 11 (by decide)) hna).1.2.2 hO hl0) (gV pw_176 pw_177 pw_178 pw_63 pw_114) hV_X0_fit qr117 0 hqr118 rfl rfl rfl (Nat.le_of_ble_eq_true rfl) dX0_element_32 ⟨(by show 0 + 1 ≤ 1; omega), (by show 0 + 6 ≤ 6; omega)⟩ ⟨(by show 7 + 1 ≤ (5 * n + 33); omega), (by show 8 + (4 + 11) + 122 ≤ (200 * n + 560); omega)⟩ (fun v116 u114 H locs hw115 hP hD hS => ?_) (fun ux ce9 q9 H9 locs9 hux hP9 hD9 hS9 hce hcv hcl => pb_out ux (ThQ.up (Thx.same (Thx.f (Thx.f (Thx.f (Thx.f (Bth.thx hbb101) (by omega)) (by omega)) (by omega)) (by omega)) rfl) (show RhX (updR (updR R 2 (.ref pq)) 3 (.ref mq)) (updR (updR (updR R 2 (.ref pq)) 3 (.ref mq)) 2 (.ref pq)) from fun k9 hk9 => by unfold updR; simp only [show ¬ k9 = 1 by omega, show ¬ k9 = 2 by omega, show ¬ k9 = 3 by omega, show ¬ k9 = 4 by omega, if_false]) hux) hnt hlocks hce hcv hcl hP9 hD9 hS9 (by show 0 + 1 ≤ 1; omega) (by show 0 + 6 ≤ 6; omega))
  obtain ⟨w, _⟩ := u114
  obtain ⟨hw115, h119, hO⟩ := hw115
  have h119 : FtQ pb t72 60 := h119
  obtain rfl : v116 = none := hw115
  have hO : OKP G h0 a (upd (upd (upd (upd (upd (upd (upd F 2 (nI sz)) 5 (nI cs68)) 7 (nI hd)) 12 (nI vr)) 13 as69) 14 wt70) 15 wf71) (updR (updR R 2 (.ref pq)) 3 (.ref mq)) Z B67 J K66 w := hO.to rfl
  refine W.widen (k := 0) (n := 0) (by show 0 + 0 ≤ 0; omega) (by show 0 + 0 ≤ 0; omega) ?_
  refine W.eq (g2 := F0 m 35 ls []) rfl ?_
  refine lv_iload_n hx hb dX0_element_35 rfl (lv_at hl 0 rfl) ?_
  refine W_size (fun hz1 hz2 => ?_)
  refine vx_ret ?_
  have hut120 := fun z : okA => (hpt50 ⟨z, (by omega)⟩).2
  have hut121 := fun z : okA => (hpt109 ⟨⟨z, (by omega)⟩, h119.1⟩).2
  have hev122 := fun z : okA => hev112 ⟨⟨z, (by omega)⟩, h119.1⟩
  have hz123 : SmW B B67 cs := (fun x9 hx9 => ⟨hsw103 x9 hx9, hsw104 x9 hx9, hsw105 x9 hx9, hsw106 x9 hx9⟩)
  have hz124 : BdE K K66 := hbe100
  have hz125 : BeF K K66 := hbf107
  have hz126 : BeL K K66 none := hbl110
  have hz127 : BeI K K66 g q := hbi111
  have hz128 : Bth B B67 := (show Thx (upd (upd (upd (upd (upd F 2 (nI sz)) 5 (nI cs)) 7 (nI hd)) 12 (nI vr)) 13 as9) (upd (upd (upd (upd (upd (upd (upd (upd (upd F 2 (nI sz)) 5 (nI cs)) 7 (nI hd)) 12 (nI vr)) 13 as9) 5 (nI cs68)) 13 as69) 14 wt70) 15 wf71) B B67 from (Thx.f (Thx.f (Thx.f (Thx.f (Bth.thx hbb101) (by omega)) (by omega)) (by omega)) (by omega))).2
  have hz129 : BeR B B67 := hbr108
  have hz130 : (t13 - 64) < 128 := (by omega)
  have hz131 : cs ≤ cs68 ∧ cs68 + 2 ≤ cs + 2 * tlE g q := (by omega)
  have hz132 : AsE as9 as69 := has113.1
  have hz133 : okA → EvB pb B B67 Ag Ag73 pd m9 sn lo cs cs68 as9 as69 hd sl (u74 :: ((t13 - 64) + 64) :: os) := (fun z => by have e9 := UTb.eq (hut120 z) h23 (by omega); rw [show (t13 - 64) + 64 = t13 by omega]; rw [← e9]; exact hev122 z)
  have hz134 : (t13 - 64) < 64 := (by omega)
  have hO : OKP G h0 a (upd (upd (upd (upd (upd (upd (upd F 2 (nI sz)) 5 (nI cs68)) 7 (nI hd)) 12 (nI vr)) 13 as69) 14 wt70) 15 wf71) (updR (updR R 2 (.ref pq)) 3 (.ref mq)) Z B67 J K66 w := hO.to rfl
  refine W.widen (k := 1) (n := 6) (by omega) (by omega) ?_
  have hzz1 : H.size ≤ s.heap.size + (0) := (by have z : 0 ≤ 0 := (by omega); omega)
  have hzz2 : hSl H ≤ hSl s.heap + (0) := (by have z : 0 ≤ 0 := (by omega); omega)
  exact W.iret (v := (nI (t13 - 64))) hx hb hr (fun t99 ht99 hW99 => ⟨⟨_, (w, (K66, B67, cs68, as69, wt70, wf71, (t13 - 64), Ag73, u74)), rfl, ⟨rfl, hz123, hz124, hz125, hz126, hz127, hz128, hz129, hz130, hz131, hz132, hz133, hz134, hO⟩, by rw [ht99]; exact hP, hD, by rw [ht99]; exact hzz1, by rw [ht99]; exact hzz2⟩, hS.F ht99⟩) hS.2.2 dX0_element_36
set_option maxHeartbeats 24000000 in
set_option maxRecDepth 100000 in
theorem Y_check (l : Launch) (G : pT) (h0 : Nat) (a : Nat → Nat) (F : Nat → Int32) (R : Nat → Value) (Z : Int64) (B : Nat → Nat → Int32) (J : Nat → Nat → Int64) (K : PK) (w : va_W) (pq : Nat) (dr : Nat) (ml : Nat) (nd : Nat) (nm : Nat) (cp : Nat) (it : Nat → Nat) (s9 : Nat) (q : Nat) (mq : Nat) (cs : Nat) (vr : Nat) (sz : Nat) (n : Nat) (q1 : Nat) (g : Nat → Nat → Nat) (rk : Nat → Nat) (pb : PNb) (Ag : Nat → AS) (pd : Nat → Prop) (sl : Nat → Nat) (os : List Nat) (m9 : Nat) (sn : Nat) (lo : Nat) (hd : Nat) (c0 : Nat) (as9 : Int32) (okA : Prop) (hsz : sz ≤ 5000) (hwp : WPr G K g) (hps : PgT G K g (a 1) pq dr ml nd nm cp it s9) (hrk : RkO K rk) (hcs : cs ≤ 10000) (hvr : vr ≤ 30) (hng : Nng (B 18)) (hmq : K.1 mq = 3) (hqT : K.1 q = 1) (hqL : 1 ≤ g 0 q ∧ g 0 q ≤ n) (hek : EkA pb K g (B 7) (B 11) sz) (hcO : OwC K dr mq c0) (hna : NaB pb G K (B 11) dr nd sz) (hen : EnV (B 26) (B 27) nd vr hd c0 sl) (hem : okA → EmB pb B Ag pd m9 sn lo cs as9 hd sl os) (hrm : cs + 2 * tlE g q ≤ 10000) (hop : os.length + ndE g q ≤ 248) (hlf : 1 ≤ tlE g q ∧ 1 ≤ ndE g q) (hc0 : K.2.2.1 0 q = some q1) (ht0 : K.1 q1 = 1) (hv0 : 1 ≤ g 0 q1 ∧ g 0 q1 + 1 ≤ n) (hlf0 : 1 ≤ tlE g q1 ∧ 1 ≤ ndE g q1) (hin0 : InE g q q1) (htl : tlE g q1 + 1 ≤ tlE g q) (hnd0 : ndE g q1 ≤ ndE g q) (ihv : IhY l G n) (hO : OKP G h0 a (upd (upd (upd (upd (upd F 2 (nI sz)) 5 (nI cs)) 7 (nI hd)) 12 (nI vr)) 13 as9) (updR (updR R 2 (.ref pq)) 3 (.ref mq)) Z B J K w) (hl0 : l.stackTraces = false) : PBn l G pX0 yX0_check cX0_check 3 (some .int) ({ frames := (5 * n + 33), cells := 1, slots := 6, locals := (200 * n + 560) }) [.ref (a 4), .ref q] w (fun (v : Option Value) (u : va_W × (PK × (Nat → Nat → Int32) × Nat × Int32 × Int32 × Int32 × Nat × (Nat → AS))) => v = some (.int (nI u.2.2.2.2.2.2.2.1)) ∧ (SmW B u.2.2.1 cs) ∧ (BdE K u.2.1) ∧ (BeF K u.2.1) ∧ (BeL K u.2.1 none) ∧ (BeI K u.2.1 g q) ∧ (Bth B u.2.2.1) ∧ (BeR B u.2.2.1) ∧ (u.2.2.2.2.2.2.2.1 < 128) ∧ (cs ≤ u.2.2.2.1 ∧ u.2.2.2.1 + 0 ≤ cs + 2 * tlE g q) ∧ (AsE as9 u.2.2.2.2.1) ∧ (okA → PlQ pb B u.2.2.1 Ag u.2.2.2.2.2.2.2.2 pd m9 sn lo cs u.2.2.2.1 as9 u.2.2.2.2.1 hd sl os u.2.2.2.2.2.2.2.1 (K.2.1 0 q)) ∧ (OKP G h0 a (upd (upd (upd (upd (upd (upd (upd F 2 (nI sz)) 5 (nI u.2.2.2.1)) 7 (nI hd)) 12 (nI vr)) 13 u.2.2.2.2.1) 14 u.2.2.2.2.2.1) 15 u.2.2.2.2.2.2.1) (updR (updR R 2 (.ref pq)) 3 (.ref mq)) Z u.2.2.1 J u.2.1 u.1)) (fun u => u.1) (fun (u : va_W × (PK × (Nat → Nat → Int32) × Nat × Int32 × Int32 × Int32 × Nat × (Nat → AS))) => 0) (fun (u : va_W × (PK × (Nat → Nat → Int32) × Nat × Int32 × Int32 × Int32 × Nat × (Nat → AS))) => 0) (fun (u : va_W × (Nat → Int32) × (Nat → Value) × (Nat → Nat → Int32)) => ThQ G h0 a (upd (upd (upd (upd (upd F 2 (nI sz)) 5 (nI cs)) 7 (nI hd)) 12 (nI vr)) 13 as9) (updR (updR R 2 (.ref pq)) 3 (.ref mq)) Z B J u) (fun u => u.1) := by
  intro sz
  refine vx_ofW (cc := cX0_check) (maxL := 3) (ret := (some .int)) (by decide) rfl ?_
  intro p e s m args below meth c s₁ B9 hml hnt hv
  obtain ⟨rfl, hsz, hP, hD0, hE, hX⟩ := hv
  have hx := B9.exec
  have hb := B9.bytes
  have hr := B9.returns
  have hts := atoms_spec (ws := Cond.code yX0_check cX0_check 3 (some .int) :: pw) B9.pre
  have hq : ∀ w ∈ pw, w.before _ s = true := fun w h => hts w (List.mem_cons_of_mem _ h)
  have hown : s.vm.findClass RX0 = some m.cls := findClass_of_methodNamed B9.named
  have hlocks := B9.notSynchronized
  subst hsz
  have hD := hD0.self (sz := s.heap.size)
  have hA : ∀ q : Nat, s.heap.size ≤ q → va_A w s.heap.size q := fun q h => Or.inr h
  generalize va_A w s.heap.size = A at hD hE hA ⊢
  have hS : va_S A s.heap s.heap [] := va_S.rf
  have hl := lv_entry ([.ref (a 4), .ref q]) (n := 3) (Nat.le_of_ble_eq_true rfl)
  rw [lg_entry_eq]
  generalize (lg_sl ([.ref (a 4), .ref q]) ++ List.replicate (3 - (lg_sl ([.ref (a 4), .ref q])).length) Slot.unset).toArray = ls at hl ⊢
  have hl : lv_has ls 3 [(0, .ref (a 4)), (1, .ref q)] := hl
  have hpg := hps.1
  have hp1 := hpg.1
  have hp2 := hpg.2.1
  have hp3 := hpg.2.2.1
  have hp4 := hpg.2.2.2.1
  have hp5 := hpg.2.2.2.2.1
  have hp6 := hpg.2.2.2.2.2.1
  have hp8 := hpg.2.2.2.2.2.2.2.1
  have hp9 := hpg.2.2.2.2.2.2.2.2
  have hdr0 : ¬ K.1 dr = 0 := by rw [hp4]; decide
  have hev0 : okA → EvQ pb.1 pb.2.1 pb.2.2.1 pb.2.2.2 (B 16) (B 17) (B 18) (B 19) (B 16) (B 17) (B 18) (B 19) Ag Ag pd m9 sn lo cs cs as9 as9 hd sl os := fun z => EvB.nil (hem z)
  obtain ⟨tk, htk⟩ : ∃ z : Int32, K.2.1 1 q = z := ⟨_, rfl⟩
  refine lv_aload_n hx hb dX0_check_0 rfl (lv_at hl 0 rfl) ?_
  refine lv_aload_n hx hb dX0_check_1 rfl (lv_at hl 1 rfl) ?_
  refine p_get (v := .ref q1) (C := RX7) (Tc := TX7) (N := 11) (ci := 13) hx hb hq pin_wsX70 hown hE hP hO (by rw [hqT]; decide) (rep_1 hqT) rfl 6 (by decide) (hq _ pw_180) (fun _ h9 => h9) (congrArg (fun z => some (va_rf z)) hc0) dX0_check_2 ?_
  have hO : OKP G h0 a (upd (upd (upd (upd (upd (upd (upd (upd (upd (upd F 2 (nI sz)) 5 (nI cs)) 7 (nI hd)) 12 (nI vr)) 13 as9) 2 (nI sz)) 5 (nI cs)) 7 (nI hd)) 12 (nI vr)) 13 as9) (updR (updR (updR (updR R 2 (.ref pq)) 3 (.ref mq)) 2 (.ref pq)) 3 (.ref mq)) Z B J K w := hO.to rfl
  obtain ⟨_, qr4, hqr5⟩ := hO.2.1 24 _ (sg_24 G h0 a _ _ _ _ _)
  refine pn_V0 (G := G) (As := [.ref q1]) (rest := []) hx hb hml hown hq hE hX pX0_al hP hD hS hA hl.1 ((ihv (by omega)) h0 a (upd (upd (upd (upd (upd F 2 (nI sz)) 5 (nI cs)) 7 (nI hd)) 12 (nI vr)) 13 as9) (updR (updR R 2 (.ref pq)) 3 (.ref mq)) Z B J K w pq dr ml nd nm cp it s9 q1 mq cs vr sz g rk pb Ag pd sl os m9 sn lo hd c0 as9 okA (by omega) (BdE.wp BdE.rfl hwp) (BdE.pt BdE.rfl hwp hps) (BdE.rko BdE.rfl hrk) (by omega) (by omega) hng hmq ht0 ⟨hv0.1, (by have z9 := hv0; omega)⟩ (EkA.be BdE.rfl (BeR.rfl 7 (by decide)) (BeR.rfl 11 (by decide)) hek) (OwC.be BdE.rfl hmq hdr0 hcO) (NaB.be BdE.rfl BeF.rfl hwp hps.2.1 hdr0 (BeR.rfl 11 (by decide)) hna) (EnV.of (BeR.rfl 26 (by decide)) (BeR.rfl 27 (by decide)) hen) (fun z => (hev0 z).1) (by omega) (by show os.length + ndE g q1 ≤ 248; omega) hlf0 hO hl0) (gV pw_173 pw_174 pw_175 pw_63 pw_224) hV_X0_value qr4 0 hqr5 rfl rfl rfl (Nat.le_of_ble_eq_true rfl) dX0_check_5 ⟨(by show 0 + 1 ≤ 1; omega), (by show 0 + 6 ≤ 6; omega)⟩ ⟨(by show (5 * (n - 1) + 34) + 1 ≤ (5 * n + 33); omega), (by show 8 + (3 + 11) + (200 * (n - 1) + 600) ≤ (200 * n + 560); omega)⟩ (fun v3 u1 H locs hw2 hP hD hS => ?_) (fun ux ce9 q9 H9 locs9 hux hP9 hD9 hS9 hce hcv hcl => pb_out ux (ThQ.up (Thx.same (Thx.same (Thx.same (Thx.same (Thx.same Thx.rfl rfl) rfl) rfl) rfl) rfl) (show RhX (updR (updR R 2 (.ref pq)) 3 (.ref mq)) (updR (updR (updR (updR R 2 (.ref pq)) 3 (.ref mq)) 2 (.ref pq)) 3 (.ref mq)) from fun k9 hk9 => by unfold updR; simp only [show ¬ k9 = 1 by omega, show ¬ k9 = 2 by omega, show ¬ k9 = 3 by omega, show ¬ k9 = 4 by omega, if_false]) hux) hnt hlocks hce hcv hcl hP9 hD9 hS9 (by show 0 + 1 ≤ 1; omega) (by show 0 + 6 ≤ 6; omega))
  obtain ⟨w, K6, B7, cs8, as10, wt11, wf12, t13, Ag14, u15⟩ := u1
  obtain ⟨hw2, h16, h17, h18, h19, h20, h21, h22, h23, h24, h25, h26, h27, hO⟩ := hw2
  have h16 : SmW B B7 cs := h16
  have h17 : BdE K K6 := h17
  have h18 : BeF K K6 := h18
  have h19 : BeL K K6 none := h19
  have h20 : BeI K K6 g q1 := h20
  have h21 : Bth B B7 := h21
  have h22 : BeR B B7 := h22
  have h23 : t13 < 128 := h23
  have h24 : cs ≤ cs8 ∧ cs8 + 0 ≤ cs + 2 * tlE g q1 := h24
  have h25 : AsE as9 as10 ∧ AsE as9 wt11 ∧ AsE as9 wf12 := h25
  have h26 : okA → VaQ pb B B7 Ag Ag14 pd m9 sn lo cs cs8 as9 as10 wt11 wf12 hd sl os t13 u15 (K.2.1 0 q1) := h26
  have h27 : CaK (K.2.1 0 q1) → cs8 + 2 ≤ cs + 2 * tlE g q1 := h27
  obtain rfl : v3 = some (.int (nI t13)) := hw2
  have hf28 : K6.1 pq = 7 := (BdE.T h17 hp1 (by decide))
  have hf29 : K6.2.2.1 18 pq = some (a 1) := (BdE.C h17 (by rw [hp1]; decide) 18).trans hp2
  have hf30 : K6.2.2.1 14 pq = some dr := (BdE.C h17 (by rw [hp1]; decide) 14).trans hp3
  have hf31 : K6.1 dr = 8 := (BdE.T h17 hp4 (by decide))
  have hf32 : K6.2.2.1 15 pq = some ml := (BdE.C h17 (by rw [hp1]; decide) 15).trans hp5
  have hf33 : K6.1 ml = 5 := (BdE.T h17 hp6 (by decide))
  have hf34 : K6.2.1 24 pq = (nI nd) := (BdE.I h17 (by rw [hp1]; decide) (by decide) (by decide)).trans hp8
  have hf35 : K6.1 q = 1 := (BdE.T h17 hqT (by decide))
  have hf36 : K6.1 mq = 3 := (BdE.T h17 hmq (by decide))
  have hf37 : K6.2.2.1 0 q = some q1 := (BdE.C h17 (by rw [hqT]; decide) 0).trans hc0
  have hf38 : K6.1 q1 = 1 := (BdE.T h17 ht0 (by decide))
  have hf39 : K6.2.1 1 q = tk := (BdE.I h17 (by rw [hqT]; decide) (by decide) (by decide)).trans htk
  have hO : OKP G h0 a (upd (upd (upd (upd (upd (upd (upd F 2 (nI sz)) 5 (nI cs8)) 7 (nI hd)) 12 (nI vr)) 13 as10) 14 wt11) 15 wf12) (updR (updR R 2 (.ref pq)) 3 (.ref mq)) Z B7 J K6 w := hO.to rfl
  refine W.widen (k := 0) (n := 0) (by show 0 + 0 ≤ 0; omega) (by show 0 + 0 ≤ 0; omega) ?_
  refine W.eq (g2 := F0 m 8 ls [.int (nI t13)]) rfl ?_
  have hbe40 := BdE.trans BdE.rfl h17
  have hbb41 : Bth B B7 := Bth.trans (show Thx (upd (upd (upd (upd (upd F 2 (nI sz)) 5 (nI cs)) 7 (nI hd)) 12 (nI vr)) 13 as9) (upd (upd (upd (upd (upd F 2 (nI sz)) 5 (nI cs)) 7 (nI hd)) 12 (nI vr)) 13 as9) B B from Thx.rfl).2 h21
  have hng42 : Nng (B7 18) := h21.2 hng
  have hsw43 : ∀ x9 : Nat, x9 < cs → (B7 16) x9 = B 16 x9 := fun x9 hx9 => ((h16 x9 (by omega)).1).trans ((fun _ _ => rfl) x9 hx9)
  have hsw44 : ∀ x9 : Nat, x9 < cs → (B7 17) x9 = B 17 x9 := fun x9 hx9 => ((h16 x9 (by omega)).2.1).trans ((fun _ _ => rfl) x9 hx9)
  have hsw45 : ∀ x9 : Nat, x9 < cs → (B7 18) x9 = B 18 x9 := fun x9 hx9 => ((h16 x9 (by omega)).2.2.1).trans ((fun _ _ => rfl) x9 hx9)
  have hsw46 : ∀ x9 : Nat, x9 < cs → (B7 19) x9 = B 19 x9 := fun x9 hx9 => ((h16 x9 (by omega)).2.2.2).trans ((fun _ _ => rfl) x9 hx9)
  have hbf47 := BeF.trans BeF.rfl h18 BdE.rfl
  have hbl50 := BeL.trans BeL.rfl h19 BdE.rfl
  have hbi51 := BeI.trans BeI.rfl h20 BdE.rfl hin0
  have hbr48 : BeR B B7 := BeR.trans BeR.rfl h22
  have hpt49 : (okA ∧ ¬ t13 = 63) → EvQ pb.1 pb.2.1 pb.2.2.1 pb.2.2.2 (B 16) (B 17) (B 18) (B 19) (B7 16) (B7 17) (B7 18) (B7 19) Ag Ag14 pd m9 sn lo cs cs8 as9 as10 hd sl (u15 :: os) ∧ UTb u15 (nI t13) as10 wt11 wf12 := fun z => VaQ.part (B1 := B) (hev0 z.1) (h26 z.1) h23 z.2
  have hev52 := fun z => (hpt49 z).1
  have has53 : AsE as9 as10 ∧ AsE as9 wt11 ∧ AsE as9 wf12 := ⟨AsE.trans AsE.rfl h25.1, AsE.trans AsE.rfl h25.2.1, AsE.trans AsE.rfl h25.2.2⟩
  have hO : OKW G h0 a (upd (upd (upd (upd (upd (upd (upd F 2 (nI sz)) 5 (nI cs8)) 7 (nI hd)) 12 (nI vr)) 13 as10) 14 wt11) 15 wf12) (updR (updR R 2 (.ref pq)) 3 (.ref mq)) Z B7 J K6.1 (fun q99 x99 => x99 = rep G a K6 q99) w := hO.to rfl
  refine pc_S0 (G := G) (As := [.int (nI t13)]) (rest := []) hx hb hml hown hq hE hX pX0_al hP hD hS hA hl.1 (Y_isRefT l G h0 a (upd (upd (upd (upd (upd (upd (upd F 2 (nI sz)) 5 (nI cs8)) 7 (nI hd)) 12 (nI vr)) 13 as10) 14 wt11) 15 wf12) (updR (updR R 2 (.ref pq)) 3 (.ref mq)) Z B7 J K6.1 (fun q99 x99 => x99 = rep G a K6 q99) w t13 (by omega) hO) (gS pw_191 pw_105 pw_106 pw_100) hS_X9_isReference rfl (Nat.le_of_ble_eq_true rfl) dX0_check_8 ⟨(by show 0 + 0 ≤ 1; omega), (by show 0 + 0 ≤ 6; omega)⟩ ⟨(by show 2 + 1 ≤ (5 * n + 33); omega), (by show 8 + (1 + 11) + 60 ≤ (200 * n + 560); omega)⟩ (fun v56 u54 H locs hw55 hP hD hS => ?_)
  obtain ⟨w, r57⟩ := u54
  obtain ⟨hw55, h58, h59, hO⟩ := hw55
  have h58 : r57 ≤ 1 := h58
  have h59 : r57 = 1 ↔ ¬ (t13 = 60 ∨ t13 = 61 ∨ t13 = 63) := h59
  obtain rfl : v56 = some (.int (nI r57)) := hw55
  have hO : OKP G h0 a (upd (upd (upd (upd (upd (upd (upd F 2 (nI sz)) 5 (nI cs8)) 7 (nI hd)) 12 (nI vr)) 13 as10) 14 wt11) 15 wf12) (updR (updR R 2 (.ref pq)) 3 (.ref mq)) Z B7 J K6 w := hO.to rfl
  refine W.widen (k := 0) (n := 0) (Nat.le_of_ble_eq_true rfl) (Nat.le_of_ble_eq_true rfl) ?_
  refine W.eq (g2 := F0 m 11 ls [.int (nI r57)]) rfl ?_
  refine lv_if_ne (tgt := 30) hx hb dX0_check_11 (by decide) (fun c60 => ?_) (fun c60 => ?_)
  · have n61 : ¬ (r57 = 0) := fun h9 => c60 ((nI_eq (a := r57) (b := 0) (by omega) (by omega)).mpr h9)
    refine lv_aload_n hx hb dX0_check_30 rfl (lv_at hl 0 rfl) ?_
    refine c_get (v := .ref (a 1)) (C := RX0) (Tc := TX0) (N := 13) (ci := 0) hx hb hq pin_wsX00 hown hE hP hO 24 (sg_24 G h0 a _ _ _ _ _) rfl 0 (by decide) (hq _ pw_4) (fun _ h9 => h9) rfl dX0_check_31 ?_
    refine lv_aload_n hx hb dX0_check_34 rfl (lv_at hl 1 rfl) ?_
    refine p_get (v := .int tk) (C := RX7) (Tc := TX7) (N := 11) (ci := 13) hx hb hq pin_wsX70 hown hE hP hO (by rw [hf35]; decide) (rep_1 hf35) rfl 1 (by decide) (hq _ pw_81) (fun _ h9 => h9) (congrArg (fun z => some (Value.int z)) hf39) dX0_check_35 ?_
    refine lv_iconst (v := 1) hx hb dX0_check_38 (by decide) ?_
    refine lv_iadd hx hb dX0_check_39 ?_
    refine lv_topi (fun x62 e63 => ?_)
    have hO : OKW G h0 a (upd (upd (upd (upd (upd (upd (upd (upd F 2 (nI sz)) 5 (nI cs8)) 7 (nI hd)) 12 (nI vr)) 13 as10) 14 wt11) 15 wf12) 2 (nI sz)) (updR (updR R 2 (.ref pq)) 3 (.ref mq)) Z B7 J K6.1 (fun q99 x99 => x99 = rep G a K6 q99) w := hO.to rfl
    obtain ⟨_, qr67, hqr68⟩ := hO.2.1 2 _ (sg_2 G h0 a _ _ _ _ _)
    refine pc_V0 (G := G) (As := [.int x62]) (rest := []) hx hb hml hown hq hE hX pX0_al hP hD hS hA hl.1 (Y_typeAt l G h0 a (upd (upd (upd (upd (upd (upd (upd F 2 (nI sz)) 5 (nI cs8)) 7 (nI hd)) 12 (nI vr)) 13 as10) 14 wt11) 15 wf12) (updR (updR R 2 (.ref pq)) 3 (.ref mq)) Z B7 J K6.1 (fun q99 x99 => x99 = rep G a K6 q99) w x62 sz nd (by omega) (NaB.be hbe40 hbf47 hwp hps.2.1 hdr0 (hbr48 11 (by decide)) hna).1.2.1 hO) (gV pw_92 pw_93 pw_94 pw_59 pw_36) hV_X10_typeAt qr67 7 hqr68 rfl rfl rfl (Nat.le_of_ble_eq_true rfl) dX0_check_40 ⟨(by show 0 + 0 ≤ 1; omega), (by show 0 + 0 ≤ 6; omega)⟩ ⟨(by show 2 + 1 ≤ (5 * n + 33); omega), (by show 8 + (2 + 11) + 60 ≤ (200 * n + 560); omega)⟩ (fun v66 u64 H locs hw65 hP hD hS => ?_)
    obtain ⟨w, _⟩ := u64
    obtain ⟨hw65, hO⟩ := hw65
    obtain rfl : v66 = some (.int (nI (tyN ((B7 11)) sz x62))) := hw65
    have hO : OKP G h0 a (upd (upd (upd (upd (upd (upd (upd F 2 (nI sz)) 5 (nI cs8)) 7 (nI hd)) 12 (nI vr)) 13 as10) 14 wt11) 15 wf12) (updR (updR R 2 (.ref pq)) 3 (.ref mq)) Z B7 J K6 w := hO.to rfl
    refine W.widen (k := 0) (n := 0) (Nat.le_of_ble_eq_true rfl) (Nat.le_of_ble_eq_true rfl) ?_
    refine W.eq (g2 := F0 m 43 ls [.int (nI (tyN ((B7 11)) sz x62))]) rfl ?_
    obtain ⟨ty69, hty69, hvty69⟩ : ∃ z : Nat, tyN (B7 11) sz x62 = z ∧ TyV nd z := ⟨_, rfl, ((NaB.be hbe40 hbf47 hwp hps.2.1 hdr0 (hbr48 11 (by decide)) hna).1.2.1).V (by omega)⟩
    rw [hty69]
    have hlty69 := (hvty69).lt hna.1.1
    refine lv_istore_n (lv' := [(2, .int (nI ty69)), (0, .ref (a 4)), (1, .ref q)]) hx hb dX0_check_43 rfl hl (by decide) rfl (fun ls hl => ?_)
    refine lv_iload_n hx hb dX0_check_44 rfl (lv_at hl 0 rfl) ?_
    have hO : OKW G h0 a (upd (upd (upd (upd (upd (upd (upd F 2 (nI sz)) 5 (nI cs8)) 7 (nI hd)) 12 (nI vr)) 13 as10) 14 wt11) 15 wf12) (updR (updR R 2 (.ref pq)) 3 (.ref mq)) Z B7 J K6.1 (fun q99 x99 => x99 = rep G a K6 q99) w := hO.to rfl
    refine pc_S0 (G := G) (As := [.int (nI ty69)]) (rest := []) hx hb hml hown hq hE hX pX0_al hP hD hS hA hl.1 (Y_isRefT l G h0 a (upd (upd (upd (upd (upd (upd (upd F 2 (nI sz)) 5 (nI cs8)) 7 (nI hd)) 12 (nI vr)) 13 as10) 14 wt11) 15 wf12) (updR (updR R 2 (.ref pq)) 3 (.ref mq)) Z B7 J K6.1 (fun q99 x99 => x99 = rep G a K6 q99) w ty69 (by omega) hO) (gS pw_191 pw_105 pw_106 pw_100) hS_X9_isReference rfl (Nat.le_of_ble_eq_true rfl) dX0_check_45 ⟨(by show 0 + 0 ≤ 1; omega), (by show 0 + 0 ≤ 6; omega)⟩ ⟨(by show 2 + 1 ≤ (5 * n + 33); omega), (by show 8 + (1 + 11) + 60 ≤ (200 * n + 560); omega)⟩ (fun v72 u70 H locs hw71 hP hD hS => ?_)
    obtain ⟨w, r73⟩ := u70
    obtain ⟨hw71, h74, h75, hO⟩ := hw71
    have h74 : r73 ≤ 1 := h74
    have h75 : r73 = 1 ↔ ¬ (ty69 = 60 ∨ ty69 = 61 ∨ ty69 = 63) := h75
    obtain rfl : v72 = some (.int (nI r73)) := hw71
    have hO : OKP G h0 a (upd (upd (upd (upd (upd (upd (upd F 2 (nI sz)) 5 (nI cs8)) 7 (nI hd)) 12 (nI vr)) 13 as10) 14 wt11) 15 wf12) (updR (updR R 2 (.ref pq)) 3 (.ref mq)) Z B7 J K6 w := hO.to rfl
    refine W.widen (k := 0) (n := 0) (Nat.le_of_ble_eq_true rfl) (Nat.le_of_ble_eq_true rfl) ?_
    refine W.eq (g2 := F0 m 48 ls [.int (nI r73)]) rfl ?_
    refine lv_if_ne (tgt := 66) hx hb dX0_check_48 (by decide) (fun c76 => ?_) (fun c76 => ?_)
    · have n77 : ¬ (r73 = 0) := fun h9 => c76 ((nI_eq (a := r73) (b := 0) (by omega) (by omega)).mpr h9)
      refine lv_aload_n hx hb dX0_check_66 rfl (lv_at hl 1 rfl) ?_
      refine c_get (v := .ref (a 1)) (C := RX0) (Tc := TX0) (N := 13) (ci := 0) hx hb hq pin_wsX00 hown hE hP hO 24 (sg_24 G h0 a _ _ _ _ _) rfl 0 (by decide) (hq _ pw_4) (fun _ h9 => h9) rfl dX0_check_67 ?_
      refine lv_aload_n hx hb dX0_check_70 rfl (lv_at hl 2 rfl) ?_
      refine p_get (v := .int tk) (C := RX7) (Tc := TX7) (N := 11) (ci := 13) hx hb hq pin_wsX70 hown hE hP hO (by rw [hf35]; decide) (rep_1 hf35) rfl 1 (by decide) (hq _ pw_81) (fun _ h9 => h9) (congrArg (fun z => some (Value.int z)) hf39) dX0_check_71 ?_
      have hO : OKW G h0 a (upd (upd (upd (upd (upd (upd (upd (upd F 2 (nI sz)) 5 (nI cs8)) 7 (nI hd)) 12 (nI vr)) 13 as10) 14 wt11) 15 wf12) 2 (nI sz)) (updR (updR R 2 (.ref pq)) 3 (.ref mq)) Z B7 J K6.1 (fun q99 x99 => x99 = rep G a K6 q99) w := hO.to rfl
      obtain ⟨_, qr81, hqr82⟩ := hO.2.1 2 _ (sg_2 G h0 a _ _ _ _ _)
      refine pc_V0 (G := G) (As := [.int tk]) (rest := []) hx hb hml hown hq hE hX pX0_al hP hD hS hA hl.1 (Y_kindAt l G h0 a (upd (upd (upd (upd (upd (upd (upd F 2 (nI sz)) 5 (nI cs8)) 7 (nI hd)) 12 (nI vr)) 13 as10) 14 wt11) 15 wf12) (updR (updR R 2 (.ref pq)) 3 (.ref mq)) Z B7 J K6.1 (fun q99 x99 => x99 = rep G a K6 q99) w tk sz (by omega) hO) (gV pw_192 pw_193 pw_194 pw_59 pw_126) hV_X10_kindAt qr81 7 hqr82 rfl rfl rfl (Nat.le_of_ble_eq_true rfl) dX0_check_74 ⟨(by show 0 + 0 ≤ 1; omega), (by show 0 + 0 ≤ 6; omega)⟩ ⟨(by show 2 + 1 ≤ (5 * n + 33); omega), (by show 8 + (2 + 11) + 60 ≤ (200 * n + 560); omega)⟩ (fun v80 u78 H locs hw79 hP hD hS => ?_)
      obtain ⟨w, _⟩ := u78
      obtain ⟨hw79, hO⟩ := hw79
      obtain rfl : v80 = some (.int (tkN ((B7 7)) sz 67 tk)) := hw79
      have hO : OKP G h0 a (upd (upd (upd (upd (upd (upd (upd F 2 (nI sz)) 5 (nI cs8)) 7 (nI hd)) 12 (nI vr)) 13 as10) 14 wt11) 15 wf12) (updR (updR R 2 (.ref pq)) 3 (.ref mq)) Z B7 J K6 w := hO.to rfl
      refine W.widen (k := 0) (n := 0) (Nat.le_of_ble_eq_true rfl) (Nat.le_of_ble_eq_true rfl) ?_
      refine W.eq (g2 := F0 m 77 ls [.int (tkN ((B7 7)) sz 67 tk)]) rfl ?_
      refine lv_bipush (v := 15) hx hb dX0_check_77 (by decide) ?_
      refine lv_icmp_ne (tgt := 92) hx hb dX0_check_79 (by decide) (fun c83 => ?_) (fun c83 => ?_)
      · refine lv_aload_n hx hb dX0_check_92 rfl (lv_at hl 1 rfl) ?_
        refine lv_bipush (v := 15) hx hb dX0_check_93 (by decide) ?_
        refine lv_iload_n hx hb dX0_check_95 rfl (lv_at hl 0 rfl) ?_
        refine lv_iload_n hx hb dX0_check_96 rfl (lv_at hl 0 rfl) ?_
        have hut84 := fun z : okA => (hpt49 ⟨z, (by omega)⟩).2
        have hev85 := fun z : okA => hev52 ⟨z, (by omega)⟩
        have hO : OKW G h0 a (upd (upd (upd (upd (upd (upd (upd (upd (upd F 2 (nI sz)) 5 (nI cs8)) 7 (nI hd)) 12 (nI vr)) 13 as10) 14 wt11) 15 wf12) 5 (nI cs8)) 7 (nI hd)) (updR (updR R 2 (.ref pq)) 3 (.ref mq)) Z B7 J K6.1 (fun q99 x99 => x99 = rep G a K6 q99) w := hO.to rfl
        obtain ⟨_, qr89, hqr90⟩ := hO.2.1 24 _ (sg_24 G h0 a _ _ _ _ _)
        refine pc_V0 (G := G) (As := [.int 15, .int (nI ty69), .int (nI ty69)]) (rest := []) hx hb hml hown hq hE hX pX0_al hP hD hS hA hl.1 (Y_give l G h0 a (upd (upd (upd (upd (upd (upd (upd F 2 (nI sz)) 5 (nI cs8)) 7 (nI hd)) 12 (nI vr)) 13 as10) 14 wt11) 15 wf12) (updR (updR R 2 (.ref pq)) 3 (.ref mq)) Z B7 J K6.1 (fun q99 x99 => x99 = rep G a K6 q99) w 15 (nI ty69) (nI ty69) cs8 hd (by omega) hO) (gV pw_158 pw_159 pw_160 pw_63 pw_128) hV_X0_give qr89 0 hqr90 rfl rfl rfl (Nat.le_of_ble_eq_true rfl) dX0_check_97 ⟨(by show 0 + 0 ≤ 1; omega), (by show 0 + 0 ≤ 6; omega)⟩ ⟨(by show 3 + 1 ≤ (5 * n + 33); omega), (by show 8 + (4 + 11) + 83 ≤ (200 * n + 560); omega)⟩ (fun v88 u86 H locs hw87 hP hD hS => ?_)
        obtain ⟨w, _⟩ := u86
        obtain ⟨hw87, hO⟩ := hw87
        obtain rfl : v88 = some (.int (nI ty69)) := hw87
        have hO : OKP G h0 a (upd (upd (upd (upd (upd (upd (upd F 2 (nI sz)) 5 (nI (cs8 + 1))) 7 (nI hd)) 12 (nI vr)) 13 as10) 14 wt11) 15 wf12) (updR (updR R 2 (.ref pq)) 3 (.ref mq)) Z (updA (updA (updA (updA B7 16 (upd ((B7 16)) cs8 15)) 17 (upd ((B7 17)) cs8 (nI ty69))) 18 (upd ((B7 18)) cs8 0)) 19 (upd ((B7 19)) cs8 (nI hd))) J K6 w := hO.to rfl
        refine W.widen (k := 0) (n := 0) (Nat.le_of_ble_eq_true rfl) (Nat.le_of_ble_eq_true rfl) ?_
        refine W.eq (g2 := F0 m 100 ls [.int (nI ty69)]) rfl ?_
        have hsw91 : ∀ x9 : Nat, x9 < cs → (upd ((B7 16)) cs8 15) x9 = B 16 x9 := fun x9 hx9 => (if_neg (by omega)).trans (hsw43 x9 hx9)
        have hsw92 : ∀ x9 : Nat, x9 < cs → (upd ((B7 17)) cs8 (nI ty69)) x9 = B 17 x9 := fun x9 hx9 => (if_neg (by omega)).trans (hsw44 x9 hx9)
        have hsw93 : ∀ x9 : Nat, x9 < cs → (upd ((B7 18)) cs8 0) x9 = B 18 x9 := fun x9 hx9 => (if_neg (by omega)).trans (hsw45 x9 hx9)
        have hsw94 : ∀ x9 : Nat, x9 < cs → (upd ((B7 19)) cs8 (nI hd)) x9 = B 19 x9 := fun x9 hx9 => (if_neg (by omega)).trans (hsw46 x9 hx9)
        obtain ⟨Ag95, hev96⟩ : ∃ A5 : Nat → AS, okA → EvQ pb.1 pb.2.1 pb.2.2.1 pb.2.2.2 (B 16) (B 17) (B 18) (B 19) (upd ((B7 16)) cs8 15) (upd ((B7 17)) cs8 (nI ty69)) (upd ((B7 18)) cs8 0) (upd ((B7 19)) cs8 (nI hd)) Ag A5 pd m9 sn lo cs (cs8 + 1) as9 as10 hd sl (ty69 :: os) := ⟨(upS Ag14 (cs8 + 1) (rcA as10, hd, sl, (ty69 :: os))), fun z => (hev85 z).trans (EmS.cast (hev85 z).1 (by show os.length + 1 ≤ 248; omega) (by rw [UTb.eq (hut84 z) h23 (by omega)]; exact RfT.of h23 (by omega) (by omega) (by omega)) (RfT.of (by omega) (by omega) (by omega) (by omega)))⟩
        have hng9 : Nng (upd ((B7 18)) cs8 0) := Nng.set hng42 (k := 0) (by omega)
        have hng97 := hng9
        refine W_size (fun hz1 hz2 => ?_)
        refine vx_ret ?_
        have hz98 : SmW B (updA (updA (updA (updA B7 16 (upd ((B7 16)) cs8 15)) 17 (upd ((B7 17)) cs8 (nI ty69))) 18 (upd ((B7 18)) cs8 0)) 19 (upd ((B7 19)) cs8 (nI hd))) cs := (fun x9 hx9 => ⟨hsw91 x9 hx9, hsw92 x9 hx9, hsw93 x9 hx9, hsw94 x9 hx9⟩)
        have hz99 : BdE K K6 := hbe40
        have hz100 : BeF K K6 := hbf47
        have hz101 : BeL K K6 none := hbl50
        have hz102 : BeI K K6 g q := hbi51
        have hz103 : Bth B (updA (updA (updA (updA B7 16 (upd ((B7 16)) cs8 15)) 17 (upd ((B7 17)) cs8 (nI ty69))) 18 (upd ((B7 18)) cs8 0)) 19 (upd ((B7 19)) cs8 (nI hd))) := (show Thx (upd (upd (upd (upd (upd F 2 (nI sz)) 5 (nI cs)) 7 (nI hd)) 12 (nI vr)) 13 as9) (upd (upd (upd (upd (upd (upd (upd (upd (upd F 2 (nI sz)) 5 (nI cs)) 7 (nI hd)) 12 (nI vr)) 13 as9) 5 (nI (cs8 + 1))) 13 as10) 14 wt11) 15 wf12) B (updA (updA (updA (updA B7 16 (upd ((B7 16)) cs8 15)) 17 (upd ((B7 17)) cs8 (nI ty69))) 18 (upd ((B7 18)) cs8 0)) 19 (upd ((B7 19)) cs8 (nI hd))) from (Thx.b (Thx.b8 (Thx.b (Thx.b (Thx.f (Thx.f (Thx.f (Thx.f (Bth.thx hbb41) (by omega)) (by omega)) (by omega)) (by omega)) (by omega) (by decide)) (by omega) (by decide)) hng97) (by omega) (by decide))).2
        have hz104 : BeR B (updA (updA (updA (updA B7 16 (upd ((B7 16)) cs8 15)) 17 (upd ((B7 17)) cs8 (nI ty69))) 18 (upd ((B7 18)) cs8 0)) 19 (upd ((B7 19)) cs8 (nI hd))) := (BeR.up (k := 19) (f := (upd ((B7 19)) cs8 (nI hd))) (BeR.up (k := 18) (f := (upd ((B7 18)) cs8 0)) (BeR.up (k := 17) (f := (upd ((B7 17)) cs8 (nI ty69))) (BeR.up (k := 16) (f := (upd ((B7 16)) cs8 15)) hbr48 (by omega)) (by omega)) (by omega)) (by omega))
        have hz105 : ty69 < 128 := (by omega)
        have hz106 : cs ≤ (cs8 + 1) ∧ (cs8 + 1) + 0 ≤ cs + 2 * tlE g q := (by omega)
        have hz107 : AsE as9 as10 := has53.1
        have hz108 : okA → PlQ pb B (updA (updA (updA (updA B7 16 (upd ((B7 16)) cs8 15)) 17 (upd ((B7 17)) cs8 (nI ty69))) 18 (upd ((B7 18)) cs8 0)) 19 (upd ((B7 19)) cs8 (nI hd))) Ag Ag95 pd m9 sn lo cs (cs8 + 1) as9 as10 hd sl os ty69 (K.2.1 0 q) := (fun z => Or.inr ⟨by rw [rsO_ne (by omega)]; exact hev96 z, by omega⟩)
        have hO : OKP G h0 a (upd (upd (upd (upd (upd (upd (upd F 2 (nI sz)) 5 (nI (cs8 + 1))) 7 (nI hd)) 12 (nI vr)) 13 as10) 14 wt11) 15 wf12) (updR (updR R 2 (.ref pq)) 3 (.ref mq)) Z (updA (updA (updA (updA B7 16 (upd ((B7 16)) cs8 15)) 17 (upd ((B7 17)) cs8 (nI ty69))) 18 (upd ((B7 18)) cs8 0)) 19 (upd ((B7 19)) cs8 (nI hd))) J K6 w := hO.to rfl
        refine W.widen (k := 1) (n := 6) (by omega) (by omega) ?_
        have hzz1 : H.size ≤ s.heap.size + (0) := (by have z : 0 ≤ 0 := (by omega); omega)
        have hzz2 : hSl H ≤ hSl s.heap + (0) := (by have z : 0 ≤ 0 := (by omega); omega)
        exact W.iret (v := (nI ty69)) hx hb hr (fun t99 ht99 hW99 => ⟨⟨_, (w, (K6, (updA (updA (updA (updA B7 16 (upd ((B7 16)) cs8 15)) 17 (upd ((B7 17)) cs8 (nI ty69))) 18 (upd ((B7 18)) cs8 0)) 19 (upd ((B7 19)) cs8 (nI hd))), (cs8 + 1), as10, wt11, wf12, ty69, Ag95)), rfl, ⟨rfl, hz98, hz99, hz100, hz101, hz102, hz103, hz104, hz105, hz106, hz107, hz108, hO⟩, by rw [ht99]; exact hP, hD, by rw [ht99]; exact hzz1, by rw [ht99]; exact hzz2⟩, hS.F ht99⟩) hS.2.2 dX0_check_100
      · refine lv_aload_n hx hb dX0_check_82 rfl (lv_at hl 1 rfl) ?_
        refine lv_bipush (v := 14) hx hb dX0_check_83 (by decide) ?_
        refine lv_iload_n hx hb dX0_check_85 rfl (lv_at hl 0 rfl) ?_
        refine lv_bipush (v := 61) hx hb dX0_check_86 (by decide) ?_
        have hut109 := fun z : okA => (hpt49 ⟨z, (by omega)⟩).2
        have hev110 := fun z : okA => hev52 ⟨z, (by omega)⟩
        have hO : OKW G h0 a (upd (upd (upd (upd (upd (upd (upd (upd (upd F 2 (nI sz)) 5 (nI cs8)) 7 (nI hd)) 12 (nI vr)) 13 as10) 14 wt11) 15 wf12) 5 (nI cs8)) 7 (nI hd)) (updR (updR R 2 (.ref pq)) 3 (.ref mq)) Z B7 J K6.1 (fun q99 x99 => x99 = rep G a K6 q99) w := hO.to rfl
        obtain ⟨_, qr114, hqr115⟩ := hO.2.1 24 _ (sg_24 G h0 a _ _ _ _ _)
        refine pc_V0 (G := G) (As := [.int 14, .int (nI ty69), .int 61]) (rest := []) hx hb hml hown hq hE hX pX0_al hP hD hS hA hl.1 (Y_give l G h0 a (upd (upd (upd (upd (upd (upd (upd F 2 (nI sz)) 5 (nI cs8)) 7 (nI hd)) 12 (nI vr)) 13 as10) 14 wt11) 15 wf12) (updR (updR R 2 (.ref pq)) 3 (.ref mq)) Z B7 J K6.1 (fun q99 x99 => x99 = rep G a K6 q99) w 14 (nI ty69) 61 cs8 hd (by omega) hO) (gV pw_158 pw_159 pw_160 pw_63 pw_128) hV_X0_give qr114 0 hqr115 rfl rfl rfl (Nat.le_of_ble_eq_true rfl) dX0_check_88 ⟨(by show 0 + 0 ≤ 1; omega), (by show 0 + 0 ≤ 6; omega)⟩ ⟨(by show 3 + 1 ≤ (5 * n + 33); omega), (by show 8 + (4 + 11) + 83 ≤ (200 * n + 560); omega)⟩ (fun v113 u111 H locs hw112 hP hD hS => ?_)
        obtain ⟨w, _⟩ := u111
        obtain ⟨hw112, hO⟩ := hw112
        obtain rfl : v113 = some (.int 61) := hw112
        have hO : OKP G h0 a (upd (upd (upd (upd (upd (upd (upd F 2 (nI sz)) 5 (nI (cs8 + 1))) 7 (nI hd)) 12 (nI vr)) 13 as10) 14 wt11) 15 wf12) (updR (updR R 2 (.ref pq)) 3 (.ref mq)) Z (updA (updA (updA (updA B7 16 (upd ((B7 16)) cs8 14)) 17 (upd ((B7 17)) cs8 (nI ty69))) 18 (upd ((B7 18)) cs8 0)) 19 (upd ((B7 19)) cs8 (nI hd))) J K6 w := hO.to rfl
        refine W.widen (k := 0) (n := 0) (Nat.le_of_ble_eq_true rfl) (Nat.le_of_ble_eq_true rfl) ?_
        refine W.eq (g2 := F0 m 91 ls [.int 61]) rfl ?_
        have hsw116 : ∀ x9 : Nat, x9 < cs → (upd ((B7 16)) cs8 14) x9 = B 16 x9 := fun x9 hx9 => (if_neg (by omega)).trans (hsw43 x9 hx9)
        have hsw117 : ∀ x9 : Nat, x9 < cs → (upd ((B7 17)) cs8 (nI ty69)) x9 = B 17 x9 := fun x9 hx9 => (if_neg (by omega)).trans (hsw44 x9 hx9)
        have hsw118 : ∀ x9 : Nat, x9 < cs → (upd ((B7 18)) cs8 0) x9 = B 18 x9 := fun x9 hx9 => (if_neg (by omega)).trans (hsw45 x9 hx9)
        have hsw119 : ∀ x9 : Nat, x9 < cs → (upd ((B7 19)) cs8 (nI hd)) x9 = B 19 x9 := fun x9 hx9 => (if_neg (by omega)).trans (hsw46 x9 hx9)
        obtain ⟨Ag120, hev121⟩ : ∃ A5 : Nat → AS, okA → EvQ pb.1 pb.2.1 pb.2.2.1 pb.2.2.2 (B 16) (B 17) (B 18) (B 19) (upd ((B7 16)) cs8 14) (upd ((B7 17)) cs8 (nI ty69)) (upd ((B7 18)) cs8 0) (upd ((B7 19)) cs8 (nI hd)) Ag A5 pd m9 sn lo cs (cs8 + 1) as9 as10 hd sl (61 :: os) := ⟨(upS Ag14 (cs8 + 1) (rcA as10, hd, sl, (61 :: os))), fun z => (hev110 z).trans (EmS.is (hev110 z).1 (by show os.length + 1 ≤ 248; omega) (by rw [UTb.eq (hut109 z) h23 (by omega)]; exact RfT.of h23 (by omega) (by omega) (by omega)) (by omega))⟩
        have hng9 : Nng (upd ((B7 18)) cs8 0) := Nng.set hng42 (k := 0) (by omega)
        have hng122 := hng9
        refine W_size (fun hz1 hz2 => ?_)
        refine vx_ret ?_
        have hz123 : SmW B (updA (updA (updA (updA B7 16 (upd ((B7 16)) cs8 14)) 17 (upd ((B7 17)) cs8 (nI ty69))) 18 (upd ((B7 18)) cs8 0)) 19 (upd ((B7 19)) cs8 (nI hd))) cs := (fun x9 hx9 => ⟨hsw116 x9 hx9, hsw117 x9 hx9, hsw118 x9 hx9, hsw119 x9 hx9⟩)
        have hz124 : BdE K K6 := hbe40
        have hz125 : BeF K K6 := hbf47
        have hz126 : BeL K K6 none := hbl50
        have hz127 : BeI K K6 g q := hbi51
        have hz128 : Bth B (updA (updA (updA (updA B7 16 (upd ((B7 16)) cs8 14)) 17 (upd ((B7 17)) cs8 (nI ty69))) 18 (upd ((B7 18)) cs8 0)) 19 (upd ((B7 19)) cs8 (nI hd))) := (show Thx (upd (upd (upd (upd (upd F 2 (nI sz)) 5 (nI cs)) 7 (nI hd)) 12 (nI vr)) 13 as9) (upd (upd (upd (upd (upd (upd (upd (upd (upd F 2 (nI sz)) 5 (nI cs)) 7 (nI hd)) 12 (nI vr)) 13 as9) 5 (nI (cs8 + 1))) 13 as10) 14 wt11) 15 wf12) B (updA (updA (updA (updA B7 16 (upd ((B7 16)) cs8 14)) 17 (upd ((B7 17)) cs8 (nI ty69))) 18 (upd ((B7 18)) cs8 0)) 19 (upd ((B7 19)) cs8 (nI hd))) from (Thx.b (Thx.b8 (Thx.b (Thx.b (Thx.f (Thx.f (Thx.f (Thx.f (Bth.thx hbb41) (by omega)) (by omega)) (by omega)) (by omega)) (by omega) (by decide)) (by omega) (by decide)) hng122) (by omega) (by decide))).2
        have hz129 : BeR B (updA (updA (updA (updA B7 16 (upd ((B7 16)) cs8 14)) 17 (upd ((B7 17)) cs8 (nI ty69))) 18 (upd ((B7 18)) cs8 0)) 19 (upd ((B7 19)) cs8 (nI hd))) := (BeR.up (k := 19) (f := (upd ((B7 19)) cs8 (nI hd))) (BeR.up (k := 18) (f := (upd ((B7 18)) cs8 0)) (BeR.up (k := 17) (f := (upd ((B7 17)) cs8 (nI ty69))) (BeR.up (k := 16) (f := (upd ((B7 16)) cs8 14)) hbr48 (by omega)) (by omega)) (by omega)) (by omega))
        have hz130 : 61 < 128 := (by omega)
        have hz131 : cs ≤ (cs8 + 1) ∧ (cs8 + 1) + 0 ≤ cs + 2 * tlE g q := (by omega)
        have hz132 : AsE as9 as10 := has53.1
        have hz133 : okA → PlQ pb B (updA (updA (updA (updA B7 16 (upd ((B7 16)) cs8 14)) 17 (upd ((B7 17)) cs8 (nI ty69))) 18 (upd ((B7 18)) cs8 0)) 19 (upd ((B7 19)) cs8 (nI hd))) Ag Ag120 pd m9 sn lo cs (cs8 + 1) as9 as10 hd sl os 61 (K.2.1 0 q) := (fun z => Or.inr ⟨by rw [rsO_ne (by omega)]; exact hev121 z, by omega⟩)
        have hO : OKP G h0 a (upd (upd (upd (upd (upd (upd (upd F 2 (nI sz)) 5 (nI (cs8 + 1))) 7 (nI hd)) 12 (nI vr)) 13 as10) 14 wt11) 15 wf12) (updR (updR R 2 (.ref pq)) 3 (.ref mq)) Z (updA (updA (updA (updA B7 16 (upd ((B7 16)) cs8 14)) 17 (upd ((B7 17)) cs8 (nI ty69))) 18 (upd ((B7 18)) cs8 0)) 19 (upd ((B7 19)) cs8 (nI hd))) J K6 w := hO.to rfl
        refine W.widen (k := 1) (n := 6) (by omega) (by omega) ?_
        have hzz1 : H.size ≤ s.heap.size + (0) := (by have z : 0 ≤ 0 := (by omega); omega)
        have hzz2 : hSl H ≤ hSl s.heap + (0) := (by have z : 0 ≤ 0 := (by omega); omega)
        exact W.iret (v := 61) hx hb hr (fun t99 ht99 hW99 => ⟨⟨_, (w, (K6, (updA (updA (updA (updA B7 16 (upd ((B7 16)) cs8 14)) 17 (upd ((B7 17)) cs8 (nI ty69))) 18 (upd ((B7 18)) cs8 0)) 19 (upd ((B7 19)) cs8 (nI hd))), (cs8 + 1), as10, wt11, wf12, 61, Ag120)), rfl, ⟨rfl, hz123, hz124, hz125, hz126, hz127, hz128, hz129, hz130, hz131, hz132, hz133, hO⟩, by rw [ht99]; exact hP, hD, by rw [ht99]; exact hzz1, by rw [ht99]; exact hzz2⟩, hS.F ht99⟩) hS.2.2 dX0_check_91
    · have n134 : r73 = 0 := (nI_eq (a := r73) (b := 0) (by omega) (by omega)).mp c76
      refine lv_aload_n hx hb dX0_check_51 rfl (lv_at hl 1 rfl) ?_
      refine c_get (v := .ref (a 1)) (C := RX0) (Tc := TX0) (N := 13) (ci := 0) hx hb hq pin_wsX00 hown hE hP hO 24 (sg_24 G h0 a _ _ _ _ _) rfl 0 (by decide) (hq _ pw_4) (fun _ h9 => h9) rfl dX0_check_52 ?_
      refine lv_bipush (v := 11) hx hb dX0_check_55 (by decide) ?_
      refine lv_aload_n hx hb dX0_check_57 rfl (lv_at hl 2 rfl) ?_
      refine p_get (v := .int tk) (C := RX7) (Tc := TX7) (N := 11) (ci := 13) hx hb hq pin_wsX70 hown hE hP hO (by rw [hf35]; decide) (rep_1 hf35) rfl 1 (by decide) (hq _ pw_81) (fun _ h9 => h9) (congrArg (fun z => some (Value.int z)) hf39) dX0_check_58 ?_
      refine lv_iconst (v := 1) hx hb dX0_check_61 (by decide) ?_
      refine lv_iadd hx hb dX0_check_62 ?_
      refine lv_topi (fun x135 e136 => ?_)
      have hO : OKW G h0 a (upd (upd (upd (upd (upd (upd (upd (upd (upd (upd F 2 (nI sz)) 5 (nI cs)) 7 (nI hd)) 12 (nI vr)) 13 as9) 5 (nI cs8)) 13 as10) 14 wt11) 15 wf12) 2 (nI sz)) (updR (updR R 2 (.ref pq)) 3 (.ref mq)) Z B7 J K6.1 (fun q99 x99 => x99 = rep G a K6 q99) w := hO.to rfl
      obtain ⟨_, qr140, hqr141⟩ := hO.2.1 2 _ (sg_2 G h0 a _ _ _ _ _)
      refine pn_V0 (G := G) (As := [.int 11, .int x135]) (rest := []) hx hb hml hown hq hE hX pX0_al hP hD hS hA hl.1 (K_fail l G h0 a (upd (upd (upd (upd (upd (upd (upd (upd (upd F 2 (nI sz)) 5 (nI cs)) 7 (nI hd)) 12 (nI vr)) 13 as9) 5 (nI cs8)) 13 as10) 14 wt11) 15 wf12) (updR (updR R 2 (.ref pq)) 3 (.ref mq)) Z B7 J K6.1 (fun q99 x99 => x99 = rep G a K6 q99) w 11 x135 sz (by omega) hO hl0) (gV pw_64 pw_65 pw_66 pw_59 pw_43) hV_X10_fail qr140 7 hqr141 rfl rfl rfl (Nat.le_of_ble_eq_true rfl) dX0_check_63 ⟨(by show 0 + 1 ≤ 1; omega), (by show 0 + 6 ≤ 6; omega)⟩ ⟨(by show 6 + 1 ≤ (5 * n + 33); omega), (by show 8 + (3 + 11) + 100 ≤ (200 * n + 560); omega)⟩ (fun v139 u137 H locs hw138 hP hD hS => hw138.elim) (fun ux ce9 q9 H9 locs9 hux hP9 hD9 hS9 hce hcv hcl => pb_out ux (ThQ.up (Thx.same (Thx.f (Thx.f (Thx.f (Thx.f (Bth.thx hbb41) (by omega)) (by omega)) (by omega)) (by omega)) rfl) RhX.rfl hux) hnt hlocks hce hcv hcl hP9 hD9 hS9 (by show 0 + 1 ≤ 1; omega) (by show 0 + 6 ≤ 6; omega))
  · have n142 : r57 = 0 := (nI_eq (a := r57) (b := 0) (by omega) (by omega)).mp c60
    refine lv_aload_n hx hb dX0_check_14 rfl (lv_at hl 0 rfl) ?_
    refine c_get (v := .ref (a 1)) (C := RX0) (Tc := TX0) (N := 13) (ci := 0) hx hb hq pin_wsX00 hown hE hP hO 24 (sg_24 G h0 a _ _ _ _ _) rfl 0 (by decide) (hq _ pw_4) (fun _ h9 => h9) rfl dX0_check_15 ?_
    refine lv_bipush (v := 11) hx hb dX0_check_18 (by decide) ?_
    refine lv_aload_n hx hb dX0_check_20 rfl (lv_at hl 1 rfl) ?_
    refine p_get (v := .ref q1) (C := RX7) (Tc := TX7) (N := 11) (ci := 13) hx hb hq pin_wsX70 hown hE hP hO (by rw [hf35]; decide) (rep_1 hf35) rfl 6 (by decide) (hq _ pw_180) (fun _ h9 => h9) (congrArg (fun z => some (va_rf z)) hf37) dX0_check_21 ?_
    refine p_get (v := .int (K6.2.1 2 q1)) (C := RX7) (Tc := TX7) (N := 11) (ci := 13) hx hb hq pin_wsX70 hown hE hP hO (by rw [hf38]; decide) (rep_1 hf38) rfl 2 (by decide) (hq _ pw_82) (fun _ h9 => h9) rfl dX0_check_24 ?_
    have hO : OKW G h0 a (upd (upd (upd (upd (upd (upd (upd (upd (upd (upd F 2 (nI sz)) 5 (nI cs)) 7 (nI hd)) 12 (nI vr)) 13 as9) 5 (nI cs8)) 13 as10) 14 wt11) 15 wf12) 2 (nI sz)) (updR (updR R 2 (.ref pq)) 3 (.ref mq)) Z B7 J K6.1 (fun q99 x99 => x99 = rep G a K6 q99) w := hO.to rfl
    obtain ⟨_, qr146, hqr147⟩ := hO.2.1 2 _ (sg_2 G h0 a _ _ _ _ _)
    refine pn_V0 (G := G) (As := [.int 11, .int (K6.2.1 2 q1)]) (rest := []) hx hb hml hown hq hE hX pX0_al hP hD hS hA hl.1 (K_fail l G h0 a (upd (upd (upd (upd (upd (upd (upd (upd (upd F 2 (nI sz)) 5 (nI cs)) 7 (nI hd)) 12 (nI vr)) 13 as9) 5 (nI cs8)) 13 as10) 14 wt11) 15 wf12) (updR (updR R 2 (.ref pq)) 3 (.ref mq)) Z B7 J K6.1 (fun q99 x99 => x99 = rep G a K6 q99) w 11 (K6.2.1 2 q1) sz (by omega) hO hl0) (gV pw_64 pw_65 pw_66 pw_59 pw_43) hV_X10_fail qr146 7 hqr147 rfl rfl rfl (Nat.le_of_ble_eq_true rfl) dX0_check_27 ⟨(by show 0 + 1 ≤ 1; omega), (by show 0 + 6 ≤ 6; omega)⟩ ⟨(by show 6 + 1 ≤ (5 * n + 33); omega), (by show 8 + (3 + 11) + 100 ≤ (200 * n + 560); omega)⟩ (fun v145 u143 H locs hw144 hP hD hS => hw144.elim) (fun ux ce9 q9 H9 locs9 hux hP9 hD9 hS9 hce hcv hcl => pb_out ux (ThQ.up (Thx.same (Thx.f (Thx.f (Thx.f (Thx.f (Bth.thx hbb41) (by omega)) (by omega)) (by omega)) (by omega)) rfl) RhX.rfl hux) hnt hlocks hce hcv hcl hP9 hD9 hS9 (by show 0 + 1 ≤ 1; omega) (by show 0 + 6 ≤ 6; omega))

/-- only the code's rows and those of variables have changed -/
def BsR (B B1 : Nat → Nat → Int32) : Prop := ∀ i : Nat, ¬ (16 ≤ i ∧ i ≤ 19) → ¬ (25 ≤ i ∧ i ≤ 27) → B1 i = B i
theorem BsR.rfl {B : Nat → Nat → Int32} : BsR B B := fun _ _ _ => Eq.refl _
theorem BsR.trans {B B1 B2 : Nat → Nat → Int32} (h : BsR B B1) (q : BsR B1 B2) : BsR B B2 := fun i h1 h2 => (q i h1 h2).trans (h i h1 h2)
theorem BsR.up {B B1 : Nat → Nat → Int32} {k : Nat} {f : Nat → Int32} (h : BsR B B1) (hk : (16 ≤ k ∧ k ≤ 19) ∨ (25 ≤ k ∧ k ≤ 27)) : BsR B (updA B1 k f) := fun i h1 h2 => by
  rw [show updA B1 k f i = B1 i from if_neg (fun z => by rw [z] at h1 h2; exact hk.elim h1 h2)]
  exact h i h1 h2
theorem nI_and31 : ∀ k : Nat, k < 32 → nI k &&& 31 = nI k := by decide
theorem BeR.vs {B B1 : Nat → Nat → Int32} {vr : Nat} (h : BeR B B1) : VrS B B1 vr := fun i _ => ⟨congrFun (h 26 (by decide)) i, congrFun (h 27 (by decide)) i⟩
theorem BeR.bs {B B1 : Nat → Nat → Int32} (h : BeR B B1) : BsR B B1 := fun i h1 _ => h i h1
set_option maxHeartbeats 24000000 in
set_option maxRecDepth 100000 in
theorem Y_local (l : Launch) (G : pT) (h0 : Nat) (a : Nat → Nat) (F : Nat → Int32) (R : Nat → Value) (Z : Int64) (B : Nat → Nat → Int32) (J : Nat → Nat → Int64) (K : PK) (w : va_W) (pq : Nat) (dr : Nat) (ml : Nat) (nd : Nat) (nm : Nat) (cp : Nat) (it : Nat → Nat) (s9 : Nat) (q : Nat) (mq : Nat) (cs : Nat) (vr : Nat) (sz : Nat) (n : Nat) (hd : Nat) (dp : Nat) (rg : Nat) (ls9 : Int32) (lp9 : Option Nat) (g : Nat → Nat → Nat) (rk : Nat → Nat) (pb : PNb) (Ag : Nat → AS) (Q9 : RX) (pd : Nat → Prop) (sl : Nat → Nat) (m9 : Nat) (lw : Nat) (c0 : Nat) (rt : Nat) (gr : Nat) (as9 : Int32) (hsz : sz ≤ 5000) (hwp : WPr G K g) (hps : PgT G K g (a 1) pq dr ml nd nm cp it s9) (hrk : RkO K rk) (hcs : cs ≤ 10000) (hvr : vr ≤ 30) (hng : Nng (B 18)) (hmq : K.1 mq = 3) (hqT : K.1 q = 1) (hqL : 1 ≤ g 0 q ∧ g 0 q ≤ n) (hrt : K.2.1 10 mq = nI rt) (hrv : TyV nd rt ∧ (bX pb).2.2.2.2.1 m9 = rt) (hdp : dp ≤ 71) (hrg : rg ≤ 625) (hhd : hd ≤ 41 + vr) (hlo : LpO K lp9) (hek : EkA pb K g (B 7) (B 11) sz) (hcO : OwC K dr mq c0) (hna : NaB pb G K (B 11) dr nd sz) (hen : EnV (B 26) (B 27) nd vr hd c0 sl) (hao : AsO as9) (hem : EmB pb B Ag pd m9 dp lw cs as9 hd sl []) (hrm : cs + 2 * tlE g q ≤ 9999) (hca : ∀ x : Nat, K.2.2.1 0 q = some x → K.1 x = 1 ∧ (1 ≤ g 0 x ∧ g 0 x + 1 ≤ n) ∧ (1 ≤ tlE g x ∧ 1 ≤ ndE g x) ∧ ndE g x ≤ 243 ∧ tlE g x + 2 ≤ tlE g q) (htq : 2 ≤ tlE g q) (hO : OKP G h0 a (upd (upd (upd (upd (upd (upd (upd (upd F 2 (nI sz)) 5 (nI cs)) 6 (nI rg)) 7 (nI hd)) 8 (nI dp)) 12 (nI vr)) 13 as9) 16 ls9) (updR (updR (updR R 2 (.ref pq)) 3 (.ref mq)) 4 (va_rf lp9)) Z B J K w) (hl0 : l.stackTraces = false) : PBn l G pX0 yX0_local cX0_local 5 none ({ frames := (5 * n + 33), cells := 1, slots := 6, locals := (200 * n + 560) }) [.ref (a 4), .ref q] w (fun (v : Option Value) (u : va_W × (PK × (Nat → Nat → Int32) × Nat × Int32 × Int32 × Int32 × Nat × Nat × Nat × (Nat → AS) × (Nat → Nat))) => v = none ∧ (SmW B u.2.2.1 cs) ∧ (BdE K u.2.1) ∧ (BeF K u.2.1) ∧ (BeL K u.2.1 none) ∧ (Bth B u.2.2.1) ∧ (BsR B u.2.2.1) ∧ (cs ≤ u.2.2.2.1 ∧ u.2.2.2.1 + 1 ≤ cs + 2 * tlE g q) ∧ (dp ≤ u.2.2.2.2.2.2.2.2.2.1 ∧ u.2.2.2.2.2.2.2.2.2.1 ≤ 71) ∧ (vr ≤ u.2.2.2.2.2.2.2.1 ∧ u.2.2.2.2.2.2.2.1 ≤ 30 ∧ u.2.2.2.2.2.2.2.2.1 + vr = hd + u.2.2.2.2.2.2.2.1) ∧ (AsO u.2.2.2.2.1) ∧ (VrS B u.2.2.1 vr) ∧ (cs < u.2.2.2.1) ∧ (EnV (u.2.2.1 26) (u.2.2.1 27) nd u.2.2.2.2.2.2.2.1 u.2.2.2.2.2.2.2.2.1 c0 u.2.2.2.2.2.2.2.2.2.2.2) ∧ (StW pb.1 pb.2.1 pb.2.2.1 pb.2.2.2 Ag u.2.2.2.2.2.2.2.2.2.2.1 Q9 Q9 pd pd m9 u.2.2.2.2.2.2.2.2.2.1 lw cs u.2.2.2.1 as9 u.2.2.2.2.1 hd u.2.2.2.2.2.2.2.2.1 sl u.2.2.2.2.2.2.2.2.2.2.2 gr gr (u.2.2.1 16) (u.2.2.1 17) (u.2.2.1 18) (u.2.2.1 19) []) ∧ (OKP G h0 a (upd (upd (upd (upd (upd (upd (upd (upd (upd (upd F 2 (nI sz)) 5 (nI u.2.2.2.1)) 6 (nI rg)) 7 (nI u.2.2.2.2.2.2.2.2.1)) 8 (nI u.2.2.2.2.2.2.2.2.2.1)) 12 (nI u.2.2.2.2.2.2.2.1)) 13 u.2.2.2.2.1) 14 u.2.2.2.2.2.1) 15 u.2.2.2.2.2.2.1) 16 ls9) (updR (updR (updR R 2 (.ref pq)) 3 (.ref mq)) 4 (va_rf lp9)) Z u.2.2.1 J u.2.1 u.1)) (fun u => u.1) (fun (u : va_W × (PK × (Nat → Nat → Int32) × Nat × Int32 × Int32 × Int32 × Nat × Nat × Nat × (Nat → AS) × (Nat → Nat))) => 0) (fun (u : va_W × (PK × (Nat → Nat → Int32) × Nat × Int32 × Int32 × Int32 × Nat × Nat × Nat × (Nat → AS) × (Nat → Nat))) => 0) (fun (u : va_W × (Nat → Int32) × (Nat → Value) × (Nat → Nat → Int32)) => ThQ G h0 a (upd (upd (upd (upd (upd (upd (upd (upd F 2 (nI sz)) 5 (nI cs)) 6 (nI rg)) 7 (nI hd)) 8 (nI dp)) 12 (nI vr)) 13 as9) 16 ls9) (updR (updR (updR R 2 (.ref pq)) 3 (.ref mq)) 4 (va_rf lp9)) Z B J u) (fun u => u.1) := by
  intro sz
  refine vx_ofW (cc := cX0_local) (maxL := 5) (ret := none) (by decide) rfl ?_
  intro p e s m args below meth c s₁ B9 hml hnt hv
  obtain ⟨rfl, hsz, hP, hD0, hE, hX⟩ := hv
  have hx := B9.exec
  have hb := B9.bytes
  have hr := B9.returns
  have hts := atoms_spec (ws := Cond.code yX0_local cX0_local 5 none :: pw) B9.pre
  have hq : ∀ w ∈ pw, w.before _ s = true := fun w h => hts w (List.mem_cons_of_mem _ h)
  have hown : s.vm.findClass RX0 = some m.cls := findClass_of_methodNamed B9.named
  have hlocks := B9.notSynchronized
  subst hsz
  have hD := hD0.self (sz := s.heap.size)
  have hA : ∀ q : Nat, s.heap.size ≤ q → va_A w s.heap.size q := fun q h => Or.inr h
  generalize va_A w s.heap.size = A at hD hE hA ⊢
  have hS : va_S A s.heap s.heap [] := va_S.rf
  have hl := lv_entry ([.ref (a 4), .ref q]) (n := 5) (Nat.le_of_ble_eq_true rfl)
  rw [lg_entry_eq]
  generalize (lg_sl ([.ref (a 4), .ref q]) ++ List.replicate (5 - (lg_sl ([.ref (a 4), .ref q])).length) Slot.unset).toArray = ls at hl ⊢
  have hl : lv_has ls 5 [(0, .ref (a 4)), (1, .ref q)] := hl
  have hpg := hps.1
  have hp1 := hpg.1
  have hp2 := hpg.2.1
  have hp3 := hpg.2.2.1
  have hp4 := hpg.2.2.2.1
  have hp5 := hpg.2.2.2.2.1
  have hp6 := hpg.2.2.2.2.2.1
  have hp8 := hpg.2.2.2.2.2.2.2.1
  have hp9 := hpg.2.2.2.2.2.2.2.2
  have hdr0 : ¬ K.1 dr = 0 := by rw [hp4]; decide
  have hrl := hrv.1.lt hna.1.1
  have hst0 : StW pb.1 pb.2.1 pb.2.2.1 pb.2.2.2 Ag Ag Q9 Q9 pd pd m9 dp lw cs cs as9 as9 hd hd sl sl gr gr (B 16) (B 17) (B 18) (B 19) ([] : List Nat) := StW.nil hem
  refine lv_aload_n hx hb dX0_local_0 rfl (lv_at hl 0 rfl) ?_
  refine c_get (v := .ref (a 1)) (C := RX0) (Tc := TX0) (N := 13) (ci := 0) hx hb hq pin_wsX00 hown hE hP hO 24 (sg_24 G h0 a _ _ _ _ _) rfl 0 (by decide) (hq _ pw_4) (fun _ h9 => h9) rfl dX0_local_1 ?_
  refine lv_aload_n hx hb dX0_local_4 rfl (lv_at hl 1 rfl) ?_
  refine p_get (v := .int (K.2.1 2 q)) (C := RX7) (Tc := TX7) (N := 11) (ci := 13) hx hb hq pin_wsX70 hown hE hP hO (by rw [hqT]; decide) (rep_1 hqT) rfl 2 (by decide) (hq _ pw_82) (fun _ h9 => h9) rfl dX0_local_5 ?_
  have hO : OKW G h0 a (upd (upd (upd (upd (upd (upd (upd (upd (upd F 2 (nI sz)) 5 (nI cs)) 6 (nI rg)) 7 (nI hd)) 8 (nI dp)) 12 (nI vr)) 13 as9) 16 ls9) 2 (nI sz)) (updR (updR (updR R 2 (.ref pq)) 3 (.ref mq)) 4 (va_rf lp9)) Z B J K.1 (fun q99 x99 => x99 = rep G a K q99) w := hO.to rfl
  obtain ⟨_, qr4, hqr5⟩ := hO.2.1 2 _ (sg_2 G h0 a _ _ _ _ _)
  refine pc_V0 (G := G) (As := [.int (K.2.1 2 q)]) (rest := []) hx hb hml hown hq hE hX pX0_al hP hD hS hA hl.1 (Y_typeAt l G h0 a (upd (upd (upd (upd (upd (upd (upd (upd F 2 (nI sz)) 5 (nI cs)) 6 (nI rg)) 7 (nI hd)) 8 (nI dp)) 12 (nI vr)) 13 as9) 16 ls9) (updR (updR (updR R 2 (.ref pq)) 3 (.ref mq)) 4 (va_rf lp9)) Z B J K.1 (fun q99 x99 => x99 = rep G a K q99) w (K.2.1 2 q) sz nd (by omega) (NaB.be BdE.rfl BeF.rfl hwp hps.2.1 hdr0 (BsR.rfl 11 (by decide) (by decide)) hna).1.2.1 hO) (gV pw_92 pw_93 pw_94 pw_59 pw_36) hV_X10_typeAt qr4 7 hqr5 rfl rfl rfl (Nat.le_of_ble_eq_true rfl) dX0_local_8 ⟨(by show 0 + 0 ≤ 1; omega), (by show 0 + 0 ≤ 6; omega)⟩ ⟨(by show 2 + 1 ≤ (5 * n + 33); omega), (by show 8 + (2 + 11) + 60 ≤ (200 * n + 560); omega)⟩ (fun v3 u1 H locs hw2 hP hD hS => ?_)
  obtain ⟨w, _⟩ := u1
  obtain ⟨hw2, hO⟩ := hw2
  obtain rfl : v3 = some (.int (nI (tyN ((B 11)) sz (K.2.1 2 q)))) := hw2
  have hO : OKP G h0 a (upd (upd (upd (upd (upd (upd (upd (upd F 2 (nI sz)) 5 (nI cs)) 6 (nI rg)) 7 (nI hd)) 8 (nI dp)) 12 (nI vr)) 13 as9) 16 ls9) (updR (updR (updR R 2 (.ref pq)) 3 (.ref mq)) 4 (va_rf lp9)) Z B J K w := hO.to rfl
  refine W.widen (k := 0) (n := 0) (Nat.le_of_ble_eq_true rfl) (Nat.le_of_ble_eq_true rfl) ?_
  refine W.eq (g2 := F0 m 11 ls [.int (nI (tyN ((B 11)) sz (K.2.1 2 q)))]) rfl ?_
  obtain ⟨ty6, hty6, hvty6⟩ : ∃ z : Nat, tyN (B 11) sz (K.2.1 2 q) = z ∧ TyV nd z := ⟨_, rfl, ((NaB.be BdE.rfl BeF.rfl hwp hps.2.1 hdr0 (BsR.rfl 11 (by decide) (by decide)) hna).1.2.1).V (by omega)⟩
  rw [hty6]
  have hlty6 := (hvty6).lt hna.1.1
  refine lv_istore_n (lv' := [(2, .int (nI ty6)), (0, .ref (a 4)), (1, .ref q)]) hx hb dX0_local_11 rfl hl (by decide) rfl (fun ls hl => ?_)
  refine lv_aload_n hx hb dX0_local_12 rfl (lv_at hl 1 rfl) ?_
  refine lv_aload_n hx hb dX0_local_13 rfl (lv_at hl 2 rfl) ?_
  refine p_get (v := .int (K.2.1 1 q)) (C := RX7) (Tc := TX7) (N := 11) (ci := 13) hx hb hq pin_wsX70 hown hE hP hO (by rw [hqT]; decide) (rep_1 hqT) rfl 1 (by decide) (hq _ pw_81) (fun _ h9 => h9) rfl dX0_local_14 ?_
  refine lv_iload_n hx hb dX0_local_17 rfl (lv_at hl 0 rfl) ?_
  have hO : OKW G h0 a (upd (upd (upd (upd (upd (upd (upd (upd (upd (upd (upd (upd (upd F 2 (nI sz)) 5 (nI cs)) 6 (nI rg)) 7 (nI hd)) 8 (nI dp)) 12 (nI vr)) 13 as9) 16 ls9) 2 (nI sz)) 7 (nI hd)) 8 (nI dp)) 12 (nI vr)) 13 as9) (updR (updR (updR R 2 (.ref pq)) 3 (.ref mq)) 4 (va_rf lp9)) Z B J K.1 (fun q99 x99 => x99 = rep G a K q99) w := hO.to rfl
  obtain ⟨_, qr10, hqr11⟩ := hO.2.1 24 _ (sg_24 G h0 a _ _ _ _ _)
  refine pn_V0 (G := G) (As := [.int (K.2.1 1 q), .int (nI ty6)]) (rest := []) hx hb hml hown hq hE hX pX0_al hP hD hS hA hl.1 (Y_declare l G h0 a (upd (upd (upd (upd (upd (upd (upd (upd F 2 (nI sz)) 5 (nI cs)) 6 (nI rg)) 7 (nI hd)) 8 (nI dp)) 12 (nI vr)) 13 as9) 16 ls9) (updR (updR (updR R 2 (.ref pq)) 3 (.ref mq)) 4 (va_rf lp9)) Z B J K.1 (fun q99 x99 => x99 = rep G a K q99) w (K.2.1 1 q) ty6 vr hd dp sz nd c0 as9 sl (by omega) (by omega) (by omega) (by omega) hen hvty6 hao hO hl0) (gV pw_95 pw_96 pw_97 pw_63 pw_71) hV_X0_declare qr10 0 hqr11 rfl rfl rfl (Nat.le_of_ble_eq_true rfl) dX0_local_18 ⟨(by show 0 + 1 ≤ 1; omega), (by show 0 + 6 ≤ 6; omega)⟩ ⟨(by show 7 + 1 ≤ (5 * n + 33); omega), (by show 8 + (4 + 11) + 122 ≤ (200 * n + 560); omega)⟩ (fun v9 u7 H locs hw8 hP hD hS => ?_) (fun ux ce9 q9 H9 locs9 hux hP9 hD9 hS9 hce hcv hcl => pb_out ux (ThQ.up (Thx.same (Thx.same (Thx.same (Thx.same (Thx.same Thx.rfl rfl) rfl) rfl) rfl) rfl) RhX.rfl hux) hnt hlocks hce hcv hcl hP9 hD9 hS9 (by show 0 + 1 ≤ 1; omega) (by show 0 + 6 ≤ 6; omega))
  obtain ⟨w, dp12, as13, f14⟩ := u7
  obtain ⟨hw8, h15, h16, h17, h18, hO⟩ := hw8
  have h15 : vr + 1 ≤ 30 := h15
  have h16 : dp12 ≤ 1000 := h16
  have h17 : dp ≤ dp12 ∧ hd + 1 ≤ dp12 ∧ (dp12 = dp ∨ dp12 = hd + 1) := h17
  have h18 : AsO as13 ∧ (as13 = -1 ↔ as9 = -1) := h18
  obtain rfl : v9 = some (.int (nI vr)) := hw8
  have hO : OKP G h0 a (upd (upd (upd (upd (upd (upd (upd (upd F 2 (nI sz)) 5 (nI cs)) 6 (nI rg)) 7 (nI (hd + 1))) 8 (nI dp12)) 12 (nI (vr + 1))) 13 as13) 16 ls9) (updR (updR (updR R 2 (.ref pq)) 3 (.ref mq)) 4 (va_rf lp9)) Z (updA (updA (updA B 25 f14) 26 (upd ((B 26)) vr (nI ty6))) 27 (upd ((B 27)) vr (nI hd))) J K w := hO.to rfl
  refine W.widen (k := 0) (n := 0) (by show 0 + 0 ≤ 0; omega) (by show 0 + 0 ≤ 0; omega) ?_
  refine W.eq (g2 := F0 m 21 ls [.int (nI vr)]) rfl ?_
  have hen19 := EnV.add hen hvty6
  have hvs20 : VrS B (updA (updA (updA B 25 f14) 26 (upd ((B 26)) vr (nI ty6))) 27 (upd ((B 27)) vr (nI hd))) vr := fun i9 hi9 => ⟨if_neg (by omega), if_neg (by omega)⟩
  have hst21 : StW pb.1 pb.2.1 pb.2.2.1 pb.2.2.2 Ag Ag Q9 Q9 pd pd m9 dp lw cs cs as9 as13 hd hd sl sl gr gr (B 16) (B 17) (B 18) (B 19) ([] : List Nat) := StW.asg hst0 h18.2
  refine lv_istore_n (lv' := [(3, .int (nI vr)), (2, .int (nI ty6)), (0, .ref (a 4)), (1, .ref q)]) hx hb dX0_local_21 rfl hl (by decide) rfl (fun ls hl => ?_)
  refine lv_aload_n hx hb dX0_local_22 rfl (lv_at hl 2 rfl) ?_
  refine c_get (v := .ref (a 27)) (C := RX0) (Tc := TX0) (N := 13) (ci := 0) hx hb hq pin_wsX00 hown hE hP hO 24 (sg_24 G h0 a _ _ _ _ _) rfl 4 (by decide) (hq _ pw_9) (fun _ h9 => h9) rfl dX0_local_23 ?_
  refine lv_iload_n hx hb dX0_local_26 rfl (lv_at hl 0 rfl) ?_
  refine c_ldi (f := (upd ((B 27)) vr (nI hd))) (n := 30) (t0 := 0) hx hb hE hP hO 27 (sg_27 G h0 a _ _ _ _ _) rfl (vp_in_nI (by omega) (by decide)) dX0_local_27 ?_
  rw [(nI_clamp (show vr < 2 ^ 31 by omega))]
  refine lv_topi (fun x22 e23 => ?_)
  obtain rfl : x22 = nI hd := e23.trans (if_pos rfl)
  refine lv_istore (lv' := [(4, .int (nI hd)), (3, .int (nI vr)), (2, .int (nI ty6)), (0, .ref (a 4)), (1, .ref q)]) hx hb dX0_local_28 hl (by decide) rfl (fun ls hl => ?_)
  refine lv_aload_n hx hb dX0_local_30 rfl (lv_at hl 3 rfl) ?_
  refine c_get (v := .ref (a 2)) (C := RX0) (Tc := TX0) (N := 13) (ci := 0) hx hb hq pin_wsX00 hown hE hP hO 24 (sg_24 G h0 a _ _ _ _ _) rfl 1 (by decide) (hq _ pw_5) (fun _ h9 => h9) rfl dX0_local_31 ?_
  refine lv_iconst (v := 4) hx hb dX0_local_34 (by decide) ?_
  refine lv_iload hx hb dX0_local_35 (lv_at hl 0 rfl) ?_
  refine lv_iconst (v := 0) hx hb dX0_local_37 (by decide) ?_
  have hO : OKW G h0 a (upd (upd (upd (upd (upd (upd (upd (upd (upd (upd F 2 (nI sz)) 5 (nI cs)) 6 (nI rg)) 7 (nI (hd + 1))) 8 (nI dp12)) 12 (nI (vr + 1))) 13 as13) 16 ls9) 5 (nI cs)) 7 (nI (hd + 1))) (updR (updR (updR R 2 (.ref pq)) 3 (.ref mq)) 4 (va_rf lp9)) Z (updA (updA (updA B 25 f14) 26 (upd ((B 26)) vr (nI ty6))) 27 (upd ((B 27)) vr (nI hd))) J K.1 (fun q99 x99 => x99 = rep G a K q99) w := hO.to rfl
  obtain ⟨_, qr27, hqr28⟩ := hO.2.1 13 _ (sg_13 G h0 a _ _ _ _ _)
  refine pc_V0 (G := G) (As := [.int 4, .int (nI hd), .int 0]) (rest := []) hx hb hml hown hq hE hX pX0_al hP hD hS hA hl.1 (Y_emit l G h0 a (upd (upd (upd (upd (upd (upd (upd (upd F 2 (nI sz)) 5 (nI cs)) 6 (nI rg)) 7 (nI (hd + 1))) 8 (nI dp12)) 12 (nI (vr + 1))) 13 as13) 16 ls9) (updR (updR (updR R 2 (.ref pq)) 3 (.ref mq)) 4 (va_rf lp9)) Z (updA (updA (updA B 25 f14) 26 (upd ((B 26)) vr (nI ty6))) 27 (upd ((B 27)) vr (nI hd))) J K.1 (fun q99 x99 => x99 = rep G a K q99) w 4 (nI hd) 0 cs (hd + 1) (by omega) hO) (gV pw_129 pw_130 pw_131 pw_70 pw_115) hV_X1_emit qr27 1 hqr28 rfl rfl rfl (Nat.le_of_ble_eq_true rfl) dX0_local_38 ⟨(by show 0 + 0 ≤ 1; omega), (by show 0 + 0 ≤ 6; omega)⟩ ⟨(by show 2 + 1 ≤ (5 * n + 33); omega), (by show 8 + (4 + 11) + 60 ≤ (200 * n + 560); omega)⟩ (fun v26 u24 H locs hw25 hP hD hS => ?_)
  obtain ⟨w, _⟩ := u24
  obtain ⟨hw25, hO⟩ := hw25
  obtain rfl : v26 = none := hw25
  have hO : OKP G h0 a (upd (upd (upd (upd (upd (upd (upd (upd F 2 (nI sz)) 5 (nI (cs + 1))) 6 (nI rg)) 7 (nI (hd + 1))) 8 (nI dp12)) 12 (nI (vr + 1))) 13 as13) 16 ls9) (updR (updR (updR R 2 (.ref pq)) 3 (.ref mq)) 4 (va_rf lp9)) Z (updA (updA (updA (updA (updA (updA (updA B 16 (upd ((B 16)) cs 4)) 17 (upd ((B 17)) cs (nI hd))) 18 (upd ((B 18)) cs 0)) 19 (upd ((B 19)) cs (nI (hd + 1)))) 25 f14) 26 (upd ((B 26)) vr (nI ty6))) 27 (upd ((B 27)) vr (nI hd))) J K w := hO.to rfl
  refine W.widen (k := 0) (n := 0) (Nat.le_of_ble_eq_true rfl) (Nat.le_of_ble_eq_true rfl) ?_
  refine W.eq (g2 := F0 m 41 ls []) rfl ?_
  have hsw29 : ∀ x9 : Nat, x9 < cs → (upd ((B 16)) cs 4) x9 = B 16 x9 := fun x9 hx9 => (if_neg (by omega)).trans ((fun _ _ => rfl) x9 hx9)
  have hsw30 : ∀ x9 : Nat, x9 < cs → (upd ((B 17)) cs (nI hd)) x9 = B 17 x9 := fun x9 hx9 => (if_neg (by omega)).trans ((fun _ _ => rfl) x9 hx9)
  have hsw31 : ∀ x9 : Nat, x9 < cs → (upd ((B 18)) cs 0) x9 = B 18 x9 := fun x9 hx9 => (if_neg (by omega)).trans ((fun _ _ => rfl) x9 hx9)
  have hsw32 : ∀ x9 : Nat, x9 < cs → (upd ((B 19)) cs (nI (hd + 1))) x9 = B 19 x9 := fun x9 hx9 => (if_neg (by omega)).trans ((fun _ _ => rfl) x9 hx9)
  obtain ⟨Ag33, hst34⟩ : ∃ A5 : Nat → AS, StW pb.1 pb.2.1 pb.2.2.1 pb.2.2.2 Ag A5 Q9 Q9 pd pd m9 dp12 lw cs (cs + 1) as9 as13 hd (hd + 1) sl (upM sl hd (tyc ty6)) gr gr (upd ((B 16)) cs 4) (upd ((B 17)) cs (nI hd)) (upd ((B 18)) cs 0) (upd ((B 19)) cs (nI (hd + 1))) ([] : List Nat) := ⟨(upS Ag (cs + 1) (rcA as13, (hd + 1), (upM sl hd (tyc ty6)), ([] : List Nat))), StW.clear hst21 (by omega) (by omega) (TyV.ty hvty6 hna.1.1)⟩
  have hng35 : Nng (upd ((B 18)) cs 0) := Nng.set hng (k := 0) (by omega)
  refine lv_aload_n hx hb dX0_local_41 rfl (lv_at hl 4 rfl) ?_
  rcases ho37 : K.2.2.1 0 q with _ | o36
  · skip
    refine p_get (v := .null) (C := RX7) (Tc := TX7) (N := 11) (ci := 13) hx hb hq pin_wsX70 hown hE hP hO (by rw [hqT]; decide) (rep_1 hqT) rfl 6 (by decide) (hq _ pw_180) (fun _ h9 => h9) (congrArg (fun z => some (va_rf z)) ho37) dX0_local_42 ?_
    refine lv_ifnullN (tgt := 88) hx hb dX0_local_45 (by decide) ?_
    refine W_size (fun hz1 hz2 => ?_)
    refine vx_ret ?_
    have hz38 : SmW B (updA (updA (updA (updA (updA (updA (updA B 16 (upd ((B 16)) cs 4)) 17 (upd ((B 17)) cs (nI hd))) 18 (upd ((B 18)) cs 0)) 19 (upd ((B 19)) cs (nI (hd + 1)))) 25 f14) 26 (upd ((B 26)) vr (nI ty6))) 27 (upd ((B 27)) vr (nI hd))) cs := (fun x9 hx9 => ⟨hsw29 x9 hx9, hsw30 x9 hx9, hsw31 x9 hx9, hsw32 x9 hx9⟩)
    have hz39 : BdE K K := BdE.rfl
    have hz40 : BeF K K := BeF.rfl
    have hz41 : BeL K K none := BeL.rfl
    have hz42 : Bth B (updA (updA (updA (updA (updA (updA (updA B 16 (upd ((B 16)) cs 4)) 17 (upd ((B 17)) cs (nI hd))) 18 (upd ((B 18)) cs 0)) 19 (upd ((B 19)) cs (nI (hd + 1)))) 25 f14) 26 (upd ((B 26)) vr (nI ty6))) 27 (upd ((B 27)) vr (nI hd))) := (show Thx (upd (upd (upd (upd (upd (upd (upd (upd F 2 (nI sz)) 5 (nI cs)) 6 (nI rg)) 7 (nI hd)) 8 (nI dp)) 12 (nI vr)) 13 as9) 16 ls9) (upd (upd (upd (upd (upd (upd (upd (upd (upd (upd (upd (upd (upd F 2 (nI sz)) 5 (nI cs)) 6 (nI rg)) 7 (nI hd)) 8 (nI dp)) 12 (nI vr)) 13 as9) 16 ls9) 5 (nI (cs + 1))) 7 (nI (hd + 1))) 8 (nI dp12)) 12 (nI (vr + 1))) 13 as13) B (updA (updA (updA (updA (updA (updA (updA B 16 (upd ((B 16)) cs 4)) 17 (upd ((B 17)) cs (nI hd))) 18 (upd ((B 18)) cs 0)) 19 (upd ((B 19)) cs (nI (hd + 1)))) 25 f14) 26 (upd ((B 26)) vr (nI ty6))) 27 (upd ((B 27)) vr (nI hd))) from (Thx.b (Thx.b (Thx.b (Thx.b (Thx.b8 (Thx.b (Thx.b (Thx.f (Thx.f (Thx.f (Thx.f (Thx.f Thx.rfl (by omega)) (by omega)) (by omega)) (by omega)) (by omega)) (by omega) (by decide)) (by omega) (by decide)) hng35) (by omega) (by decide)) (by omega) (by decide)) (by omega) (by decide)) (by omega) (by decide))).2
    have hz43 : BsR B (updA (updA (updA (updA (updA (updA (updA B 16 (upd ((B 16)) cs 4)) 17 (upd ((B 17)) cs (nI hd))) 18 (upd ((B 18)) cs 0)) 19 (upd ((B 19)) cs (nI (hd + 1)))) 25 f14) 26 (upd ((B 26)) vr (nI ty6))) 27 (upd ((B 27)) vr (nI hd))) := (BsR.up (BsR.up (BsR.up (BsR.up (BsR.up (BsR.up (BsR.up BsR.rfl (by omega)) (by omega)) (by omega)) (by omega)) (by omega)) (by omega)) (by omega))
    have hz44 : cs ≤ (cs + 1) ∧ (cs + 1) + 1 ≤ cs + 2 * tlE g q := (by omega)
    have hz45 : dp ≤ dp12 ∧ dp12 ≤ 71 := (by omega)
    have hz46 : vr ≤ (vr + 1) ∧ (vr + 1) ≤ 30 ∧ (hd + 1) + vr = hd + (vr + 1) := (by omega)
    have hz47 : AsO as13 := h18.1
    have hz48 : VrS B (updA (updA (updA (updA (updA (updA (updA B 16 (upd ((B 16)) cs 4)) 17 (upd ((B 17)) cs (nI hd))) 18 (upd ((B 18)) cs 0)) 19 (upd ((B 19)) cs (nI (hd + 1)))) 25 f14) 26 (upd ((B 26)) vr (nI ty6))) 27 (upd ((B 27)) vr (nI hd))) vr := hvs20
    have hz49 : cs < (cs + 1) := (by omega)
    have hz50 : EnV ((updA (updA (updA (updA (updA (updA (updA B 16 (upd ((B 16)) cs 4)) 17 (upd ((B 17)) cs (nI hd))) 18 (upd ((B 18)) cs 0)) 19 (upd ((B 19)) cs (nI (hd + 1)))) 25 f14) 26 (upd ((B 26)) vr (nI ty6))) 27 (upd ((B 27)) vr (nI hd))) 26) ((updA (updA (updA (updA (updA (updA (updA B 16 (upd ((B 16)) cs 4)) 17 (upd ((B 17)) cs (nI hd))) 18 (upd ((B 18)) cs 0)) 19 (upd ((B 19)) cs (nI (hd + 1)))) 25 f14) 26 (upd ((B 26)) vr (nI ty6))) 27 (upd ((B 27)) vr (nI hd))) 27) nd (vr + 1) (hd + 1) c0 (upM sl hd (tyc ty6)) := hen19
    have hz51 : StW pb.1 pb.2.1 pb.2.2.1 pb.2.2.2 Ag Ag33 Q9 Q9 pd pd m9 dp12 lw cs (cs + 1) as9 as13 hd (hd + 1) sl (upM sl hd (tyc ty6)) gr gr ((updA (updA (updA (updA (updA (updA (updA B 16 (upd ((B 16)) cs 4)) 17 (upd ((B 17)) cs (nI hd))) 18 (upd ((B 18)) cs 0)) 19 (upd ((B 19)) cs (nI (hd + 1)))) 25 f14) 26 (upd ((B 26)) vr (nI ty6))) 27 (upd ((B 27)) vr (nI hd))) 16) ((updA (updA (updA (updA (updA (updA (updA B 16 (upd ((B 16)) cs 4)) 17 (upd ((B 17)) cs (nI hd))) 18 (upd ((B 18)) cs 0)) 19 (upd ((B 19)) cs (nI (hd + 1)))) 25 f14) 26 (upd ((B 26)) vr (nI ty6))) 27 (upd ((B 27)) vr (nI hd))) 17) ((updA (updA (updA (updA (updA (updA (updA B 16 (upd ((B 16)) cs 4)) 17 (upd ((B 17)) cs (nI hd))) 18 (upd ((B 18)) cs 0)) 19 (upd ((B 19)) cs (nI (hd + 1)))) 25 f14) 26 (upd ((B 26)) vr (nI ty6))) 27 (upd ((B 27)) vr (nI hd))) 18) ((updA (updA (updA (updA (updA (updA (updA B 16 (upd ((B 16)) cs 4)) 17 (upd ((B 17)) cs (nI hd))) 18 (upd ((B 18)) cs 0)) 19 (upd ((B 19)) cs (nI (hd + 1)))) 25 f14) 26 (upd ((B 26)) vr (nI ty6))) 27 (upd ((B 27)) vr (nI hd))) 19) [] := hst34
    have hO : OKP G h0 a (upd (upd (upd (upd (upd (upd (upd (upd (upd (upd F 2 (nI sz)) 5 (nI (cs + 1))) 6 (nI rg)) 7 (nI (hd + 1))) 8 (nI dp12)) 12 (nI (vr + 1))) 13 as13) 14 (F 14)) 15 (F 15)) 16 ls9) (updR (updR (updR R 2 (.ref pq)) 3 (.ref mq)) 4 (va_rf lp9)) Z (updA (updA (updA (updA (updA (updA (updA B 16 (upd ((B 16)) cs 4)) 17 (upd ((B 17)) cs (nI hd))) 18 (upd ((B 18)) cs 0)) 19 (upd ((B 19)) cs (nI (hd + 1)))) 25 f14) 26 (upd ((B 26)) vr (nI ty6))) 27 (upd ((B 27)) vr (nI hd))) J K w := hO.to rfl
    refine W.widen (k := 1) (n := 6) (by omega) (by omega) ?_
    have hzz1 : H.size ≤ s.heap.size + (0) := (by have z : 0 ≤ 0 := (by omega); omega)
    have hzz2 : hSl H ≤ hSl s.heap + (0) := (by have z : 0 ≤ 0 := (by omega); omega)
    exact W.vret hx hb hr (fun t99 ht99 hW99 => ⟨⟨_, (w, (K, (updA (updA (updA (updA (updA (updA (updA B 16 (upd ((B 16)) cs 4)) 17 (upd ((B 17)) cs (nI hd))) 18 (upd ((B 18)) cs 0)) 19 (upd ((B 19)) cs (nI (hd + 1)))) 25 f14) 26 (upd ((B 26)) vr (nI ty6))) 27 (upd ((B 27)) vr (nI hd))), (cs + 1), as13, (F 14), (F 15), (vr + 1), (hd + 1), dp12, Ag33, (upM sl hd (tyc ty6)))), rfl, ⟨rfl, hz38, hz39, hz40, hz41, hz42, hz43, hz44, hz45, hz46, hz47, hz48, hz49, hz50, hz51, hO⟩, by rw [ht99]; exact hP, hD, by rw [ht99]; exact hzz1, by rw [ht99]; exact hzz2⟩, hS.F ht99⟩) hS.2.2 dX0_local_88
  · obtain ⟨hcT, hcv, hcl, hcn, hct⟩ := hca o36 ho37
    refine p_get (v := .ref o36) (C := RX7) (Tc := TX7) (N := 11) (ci := 13) hx hb hq pin_wsX70 hown hE hP hO (by rw [hqT]; decide) (rep_1 hqT) rfl 6 (by decide) (hq _ pw_180) (fun _ h9 => h9) (congrArg (fun z => some (va_rf z)) ho37) dX0_local_42 ?_
    refine lv_ifnull hx hb dX0_local_45 ?_
    refine lv_aload_n hx hb dX0_local_48 rfl (lv_at hl 3 rfl) ?_
    refine lv_aload_n hx hb dX0_local_49 rfl (lv_at hl 4 rfl) ?_
    refine p_get (v := .ref o36) (C := RX7) (Tc := TX7) (N := 11) (ci := 13) hx hb hq pin_wsX70 hown hE hP hO (by rw [hqT]; decide) (rep_1 hqT) rfl 6 (by decide) (hq _ pw_180) (fun _ h9 => h9) (congrArg (fun z => some (va_rf z)) ho37) dX0_local_50 ?_
    refine lv_aload_n hx hb dX0_local_53 rfl (lv_at hl 3 rfl) ?_
    refine lv_aload_n hx hb dX0_local_54 rfl (lv_at hl 4 rfl) ?_
    refine p_get (v := .ref o36) (C := RX7) (Tc := TX7) (N := 11) (ci := 13) hx hb hq pin_wsX70 hown hE hP hO (by rw [hqT]; decide) (rep_1 hqT) rfl 6 (by decide) (hq _ pw_180) (fun _ h9 => h9) (congrArg (fun z => some (va_rf z)) ho37) dX0_local_55 ?_
    have hO : OKP G h0 a (upd (upd (upd (upd (upd (upd (upd (upd (upd (upd (upd (upd (upd (upd (upd (upd (upd (upd F 2 (nI sz)) 5 (nI cs)) 6 (nI rg)) 7 (nI hd)) 8 (nI dp)) 12 (nI vr)) 13 as9) 16 ls9) 5 (nI (cs + 1))) 7 (nI (hd + 1))) 8 (nI dp12)) 12 (nI (vr + 1))) 13 as13) 2 (nI sz)) 5 (nI (cs + 1))) 7 (nI (hd + 1))) 12 (nI (vr + 1))) 13 as13) (updR (updR (updR (updR (updR R 2 (.ref pq)) 3 (.ref mq)) 4 (va_rf lp9)) 2 (.ref pq)) 3 (.ref mq)) Z (updA (updA (updA (updA (updA (updA (updA B 16 (upd ((B 16)) cs 4)) 17 (upd ((B 17)) cs (nI hd))) 18 (upd ((B 18)) cs 0)) 19 (upd ((B 19)) cs (nI (hd + 1)))) 25 f14) 26 (upd ((B 26)) vr (nI ty6))) 27 (upd ((B 27)) vr (nI hd))) J K w := hO.to rfl
    obtain ⟨_, qr55, hqr56⟩ := hO.2.1 24 _ (sg_24 G h0 a _ _ _ _ _)
    refine pn_V0 (G := G) (As := [.ref o36]) (rest := [.ref o36, .ref (a 4)]) hx hb hml hown hq hE hX pX0_al hP hD hS hA hl.1 ((PY_all l G (n - 1)) h0 a (upd (upd (upd (upd (upd (upd (upd (upd (upd (upd (upd (upd (upd F 2 (nI sz)) 5 (nI cs)) 6 (nI rg)) 7 (nI hd)) 8 (nI dp)) 12 (nI vr)) 13 as9) 16 ls9) 5 (nI (cs + 1))) 7 (nI (hd + 1))) 8 (nI dp12)) 12 (nI (vr + 1))) 13 as13) (updR (updR (updR R 2 (.ref pq)) 3 (.ref mq)) 4 (va_rf lp9)) Z (updA (updA (updA (updA (updA (updA (updA B 16 (upd ((B 16)) cs 4)) 17 (upd ((B 17)) cs (nI hd))) 18 (upd ((B 18)) cs 0)) 19 (upd ((B 19)) cs (nI (hd + 1)))) 25 f14) 26 (upd ((B 26)) vr (nI ty6))) 27 (upd ((B 27)) vr (nI hd))) J K w pq dr ml nd nm cp it s9 o36 mq (cs + 1) (vr + 1) sz g rk pb Ag33 pd (upM sl hd (tyc ty6)) ([] : List Nat) m9 dp12 lw (hd + 1) c0 as13 True (by omega) (BdE.wp BdE.rfl hwp) (BdE.pt BdE.rfl hwp hps) (BdE.rko BdE.rfl hrk) (by omega) (by omega) hng35 hmq hcT ⟨hcv.1, (by have z9 := hcv; omega)⟩ (EkA.be BdE.rfl ((BsR.up (BsR.up (BsR.up (BsR.up (BsR.up (BsR.up (BsR.up BsR.rfl (by omega)) (by omega)) (by omega)) (by omega)) (by omega)) (by omega)) (by omega)) 7 (by decide) (by decide)) ((BsR.up (BsR.up (BsR.up (BsR.up (BsR.up (BsR.up (BsR.up BsR.rfl (by omega)) (by omega)) (by omega)) (by omega)) (by omega)) (by omega)) (by omega)) 11 (by decide) (by decide)) hek) (OwC.be BdE.rfl hmq hdr0 hcO) (NaB.be BdE.rfl BeF.rfl hwp hps.2.1 hdr0 ((BsR.up (BsR.up (BsR.up (BsR.up (BsR.up (BsR.up (BsR.up BsR.rfl (by omega)) (by omega)) (by omega)) (by omega)) (by omega)) (by omega)) (by omega)) 11 (by decide) (by decide)) hna) hen19 (fun _ => hst34.1) (by omega) (by show 0 + ndE g o36 ≤ 248; omega) hcl hO hl0) (gV pw_173 pw_174 pw_175 pw_63 pw_224) hV_X0_value qr55 0 hqr56 rfl rfl rfl (Nat.le_of_ble_eq_true rfl) dX0_local_58 ⟨(by show 0 + 1 ≤ 1; omega), (by show 0 + 6 ≤ 6; omega)⟩ ⟨(by show (5 * (n - 1) + 34) + 1 ≤ (5 * n + 33); omega), (by show 8 + (3 + 11) + (200 * (n - 1) + 600) ≤ (200 * n + 560); omega)⟩ (fun v54 u52 H locs hw53 hP hD hS => ?_) (fun ux ce9 q9 H9 locs9 hux hP9 hD9 hS9 hce hcv hcl => pb_out ux (ThQ.up (Thx.same (Thx.same (Thx.same (Thx.same (Thx.same (Thx.b (Thx.b (Thx.b (Thx.b (Thx.b8 (Thx.b (Thx.b (Thx.f (Thx.f (Thx.f (Thx.f (Thx.f Thx.rfl (by omega)) (by omega)) (by omega)) (by omega)) (by omega)) (by omega) (by decide)) (by omega) (by decide)) hng35) (by omega) (by decide)) (by omega) (by decide)) (by omega) (by decide)) (by omega) (by decide)) rfl) rfl) rfl) rfl) rfl) (show RhX (updR (updR (updR R 2 (.ref pq)) 3 (.ref mq)) 4 (va_rf lp9)) (updR (updR (updR (updR (updR R 2 (.ref pq)) 3 (.ref mq)) 4 (va_rf lp9)) 2 (.ref pq)) 3 (.ref mq)) from fun k9 hk9 => by unfold updR; simp only [show ¬ k9 = 1 by omega, show ¬ k9 = 2 by omega, show ¬ k9 = 3 by omega, show ¬ k9 = 4 by omega, if_false]) hux) hnt hlocks hce hcv hcl hP9 hD9 hS9 (by show 0 + 1 ≤ 1; omega) (by show 0 + 6 ≤ 6; omega))
    obtain ⟨w, K57, B58, cs59, as60, wt61, wf62, t63, Ag64, u65⟩ := u52
    obtain ⟨hw53, h66, h67, h68, h69, h70, h71, h72, h73, h74, h75, h76, h77, hO⟩ := hw53
    have h66 : SmW (updA (updA (updA (updA (updA (updA (updA B 16 (upd ((B 16)) cs 4)) 17 (upd ((B 17)) cs (nI hd))) 18 (upd ((B 18)) cs 0)) 19 (upd ((B 19)) cs (nI (hd + 1)))) 25 f14) 26 (upd ((B 26)) vr (nI ty6))) 27 (upd ((B 27)) vr (nI hd))) B58 (cs + 1) := h66
    have h67 : BdE K K57 := h67
    have h68 : BeF K K57 := h68
    have h69 : BeL K K57 none := h69
    have h70 : BeI K K57 g o36 := h70
    have h71 : Bth (updA (updA (updA (updA (updA (updA (updA B 16 (upd ((B 16)) cs 4)) 17 (upd ((B 17)) cs (nI hd))) 18 (upd ((B 18)) cs 0)) 19 (upd ((B 19)) cs (nI (hd + 1)))) 25 f14) 26 (upd ((B 26)) vr (nI ty6))) 27 (upd ((B 27)) vr (nI hd))) B58 := h71
    have h72 : BeR (updA (updA (updA (updA (updA (updA (updA B 16 (upd ((B 16)) cs 4)) 17 (upd ((B 17)) cs (nI hd))) 18 (upd ((B 18)) cs 0)) 19 (upd ((B 19)) cs (nI (hd + 1)))) 25 f14) 26 (upd ((B 26)) vr (nI ty6))) 27 (upd ((B 27)) vr (nI hd))) B58 := h72
    have h73 : t63 < 128 := h73
    have h74 : (cs + 1) ≤ cs59 ∧ cs59 + 0 ≤ (cs + 1) + 2 * tlE g o36 := h74
    have h75 : AsE as13 as60 ∧ AsE as13 wt61 ∧ AsE as13 wf62 := h75
    have h76 : True → VaQ pb (updA (updA (updA (updA (updA (updA (updA B 16 (upd ((B 16)) cs 4)) 17 (upd ((B 17)) cs (nI hd))) 18 (upd ((B 18)) cs 0)) 19 (upd ((B 19)) cs (nI (hd + 1)))) 25 f14) 26 (upd ((B 26)) vr (nI ty6))) 27 (upd ((B 27)) vr (nI hd))) B58 Ag33 Ag64 pd m9 dp12 lw (cs + 1) cs59 as13 as60 wt61 wf62 (hd + 1) (upM sl hd (tyc ty6)) ([] : List Nat) t63 u65 (K.2.1 0 o36) := h76
    have h77 : CaK (K.2.1 0 o36) → cs59 + 2 ≤ (cs + 1) + 2 * tlE g o36 := h77
    obtain rfl : v54 = some (.int (nI t63)) := hw53
    have hf78 : K57.1 pq = 7 := (BdE.T h67 hp1 (by decide))
    have hf79 : K57.2.2.1 18 pq = some (a 1) := (BdE.C h67 (by rw [hp1]; decide) 18).trans hp2
    have hf80 : K57.2.2.1 14 pq = some dr := (BdE.C h67 (by rw [hp1]; decide) 14).trans hp3
    have hf81 : K57.1 dr = 8 := (BdE.T h67 hp4 (by decide))
    have hf82 : K57.2.2.1 15 pq = some ml := (BdE.C h67 (by rw [hp1]; decide) 15).trans hp5
    have hf83 : K57.1 ml = 5 := (BdE.T h67 hp6 (by decide))
    have hf84 : K57.2.1 24 pq = (nI nd) := (BdE.I h67 (by rw [hp1]; decide) (by decide) (by decide)).trans hp8
    have hf85 : K57.1 q = 1 := (BdE.T h67 hqT (by decide))
    have hf86 : K57.1 mq = 3 := (BdE.T h67 hmq (by decide))
    have hf87 : K57.2.1 10 mq = (nI rt) := (BdE.I h67 (by rw [hmq]; decide) (by decide) (by decide)).trans hrt
    have hf88 : K57.2.2.1 0 q = some o36 := (BdE.C h67 (by rw [hqT]; decide) 0).trans ho37
    have hf89 : K57.1 o36 = 1 := (BdE.T h67 hcT (by decide))
    have hO : OKP G h0 a (upd (upd (upd (upd (upd (upd (upd (upd (upd (upd F 2 (nI sz)) 5 (nI cs59)) 6 (nI rg)) 7 (nI (hd + 1))) 8 (nI dp12)) 12 (nI (vr + 1))) 13 as60) 14 wt61) 15 wf62) 16 ls9) (updR (updR (updR R 2 (.ref pq)) 3 (.ref mq)) 4 (va_rf lp9)) Z B58 J K57 w := hO.to rfl
    refine W.widen (k := 0) (n := 0) (by show 0 + 0 ≤ 0; omega) (by show 0 + 0 ≤ 0; omega) ?_
    refine W.eq (g2 := F0 m 61 ls [.int (nI t63), .ref o36, .ref (a 4)]) rfl ?_
    have hbe90 := BdE.trans BdE.rfl h67
    have hbb91 : Bth B B58 := Bth.trans (show Thx (upd (upd (upd (upd (upd (upd (upd (upd F 2 (nI sz)) 5 (nI cs)) 6 (nI rg)) 7 (nI hd)) 8 (nI dp)) 12 (nI vr)) 13 as9) 16 ls9) (upd (upd (upd (upd (upd (upd (upd (upd (upd (upd (upd (upd (upd F 2 (nI sz)) 5 (nI cs)) 6 (nI rg)) 7 (nI hd)) 8 (nI dp)) 12 (nI vr)) 13 as9) 16 ls9) 5 (nI (cs + 1))) 7 (nI (hd + 1))) 8 (nI dp12)) 12 (nI (vr + 1))) 13 as13) B (updA (updA (updA (updA (updA (updA (updA B 16 (upd ((B 16)) cs 4)) 17 (upd ((B 17)) cs (nI hd))) 18 (upd ((B 18)) cs 0)) 19 (upd ((B 19)) cs (nI (hd + 1)))) 25 f14) 26 (upd ((B 26)) vr (nI ty6))) 27 (upd ((B 27)) vr (nI hd))) from (Thx.b (Thx.b (Thx.b (Thx.b (Thx.b8 (Thx.b (Thx.b (Thx.f (Thx.f (Thx.f (Thx.f (Thx.f Thx.rfl (by omega)) (by omega)) (by omega)) (by omega)) (by omega)) (by omega) (by decide)) (by omega) (by decide)) hng35) (by omega) (by decide)) (by omega) (by decide)) (by omega) (by decide)) (by omega) (by decide))).2 h71
    have hng92 : Nng (B58 18) := h71.2 hng35
    have hsw93 : ∀ x9 : Nat, x9 < cs → (B58 16) x9 = B 16 x9 := fun x9 hx9 => ((h66 x9 (by omega)).1).trans (hsw29 x9 hx9)
    have hsw94 : ∀ x9 : Nat, x9 < cs → (B58 17) x9 = B 17 x9 := fun x9 hx9 => ((h66 x9 (by omega)).2.1).trans (hsw30 x9 hx9)
    have hsw95 : ∀ x9 : Nat, x9 < cs → (B58 18) x9 = B 18 x9 := fun x9 hx9 => ((h66 x9 (by omega)).2.2.1).trans (hsw31 x9 hx9)
    have hsw96 : ∀ x9 : Nat, x9 < cs → (B58 19) x9 = B 19 x9 := fun x9 hx9 => ((h66 x9 (by omega)).2.2.2).trans (hsw32 x9 hx9)
    have hbf97 := BeF.trans BeF.rfl h68 BdE.rfl
    have hbl99 := BeL.trans BeL.rfl h69 BdE.rfl
    have hbr98 : BsR B B58 := BsR.trans (BsR.up (BsR.up (BsR.up (BsR.up (BsR.up (BsR.up (BsR.up BsR.rfl (by omega)) (by omega)) (by omega)) (by omega)) (by omega)) (by omega)) (by omega)) (BeR.bs h72)
    have hen100 : EnV (B58 26) (B58 27) nd (vr + 1) (hd + 1) c0 (upM sl hd (tyc ty6)) := EnV.of (h72 26 (by decide)) (h72 27 (by decide)) hen19
    have hvs101 : VrS B B58 vr := fun i9 hi9 => ⟨(congrFun (h72 26 (by decide)) i9).trans (hvs20 i9 hi9).1, (congrFun (h72 27 (by decide)) i9).trans (hvs20 i9 hi9).2⟩
    have hao102 : AsO as60 ∧ AsO wt61 ∧ AsO wf62 := ⟨AsE.aso h75.1 h18.1, AsE.aso h75.2.1 h18.1, AsE.aso h75.2.2 h18.1⟩
    refine lv_iload_n hx hb dX0_local_61 rfl (lv_at hl 2 rfl) ?_
    have hO : OKP G h0 a (upd (upd (upd (upd (upd (upd (upd (upd (upd (upd (upd (upd (upd (upd (upd (upd F 2 (nI sz)) 5 (nI cs)) 6 (nI rg)) 7 (nI hd)) 8 (nI dp)) 12 (nI vr)) 13 as9) 16 ls9) 5 (nI cs59)) 7 (nI (hd + 1))) 8 (nI dp12)) 12 (nI (vr + 1))) 13 as60) 14 wt61) 15 wf62) 2 (nI sz)) (updR (updR (updR (updR R 2 (.ref pq)) 3 (.ref mq)) 4 (va_rf lp9)) 2 (.ref pq)) Z B58 J K57 w := hO.to rfl
    obtain ⟨_, qr106, hqr107⟩ := hO.2.1 24 _ (sg_24 G h0 a _ _ _ _ _)
    refine pn_V0 (G := G) (As := [.ref o36, .int (nI t63), .int (nI ty6)]) (rest := []) hx hb hml hown hq hE hX pX0_al hP hD hS hA hl.1 (Y_fit l G h0 a (upd (upd (upd (upd (upd (upd (upd (upd (upd (upd (upd (upd (upd (upd (upd F 2 (nI sz)) 5 (nI cs)) 6 (nI rg)) 7 (nI hd)) 8 (nI dp)) 12 (nI vr)) 13 as9) 16 ls9) 5 (nI cs59)) 7 (nI (hd + 1))) 8 (nI dp12)) 12 (nI (vr + 1))) 13 as60) 14 wt61) 15 wf62) (updR (updR (updR R 2 (.ref pq)) 3 (.ref mq)) 4 (va_rf lp9)) Z B58 J K57 w pq dr ml nd o36 sz t63 ty6 g pb (by omega) (BdE.pt hbe90 hwp hps).1 (BdE.pt hbe90 hwp hps).2.1 hf89 (by omega) hna.1.1 (NaB.be hbe90 hbf97 hwp hps.2.1 hdr0 (hbr98 11 (by decide) (by decide)) hna).1.2.2 hO hl0) (gV pw_176 pw_177 pw_178 pw_63 pw_114) hV_X0_fit qr106 0 hqr107 rfl rfl rfl (Nat.le_of_ble_eq_true rfl) dX0_local_62 ⟨(by show 0 + 1 ≤ 1; omega), (by show 0 + 6 ≤ 6; omega)⟩ ⟨(by show 7 + 1 ≤ (5 * n + 33); omega), (by show 8 + (4 + 11) + 122 ≤ (200 * n + 560); omega)⟩ (fun v105 u103 H locs hw104 hP hD hS => ?_) (fun ux ce9 q9 H9 locs9 hux hP9 hD9 hS9 hce hcv hcl => pb_out ux (ThQ.up (Thx.same (Thx.f (Thx.f (Thx.f (Thx.f (Thx.f (Thx.f (Thx.f (Bth.thx hbb91) (by omega)) (by omega)) (by omega)) (by omega)) (by omega)) (by omega)) (by omega)) rfl) (show RhX (updR (updR (updR R 2 (.ref pq)) 3 (.ref mq)) 4 (va_rf lp9)) (updR (updR (updR (updR R 2 (.ref pq)) 3 (.ref mq)) 4 (va_rf lp9)) 2 (.ref pq)) from fun k9 hk9 => by unfold updR; simp only [show ¬ k9 = 1 by omega, show ¬ k9 = 2 by omega, show ¬ k9 = 3 by omega, show ¬ k9 = 4 by omega, if_false]) hux) hnt hlocks hce hcv hcl hP9 hD9 hS9 (by show 0 + 1 ≤ 1; omega) (by show 0 + 6 ≤ 6; omega))
    obtain ⟨w, _⟩ := u103
    obtain ⟨hw104, h108, hO⟩ := hw104
    have h108 : FtQ pb t63 ty6 := h108
    obtain rfl : v105 = none := hw104
    have hO : OKP G h0 a (upd (upd (upd (upd (upd (upd (upd (upd (upd (upd F 2 (nI sz)) 5 (nI cs59)) 6 (nI rg)) 7 (nI (hd + 1))) 8 (nI dp12)) 12 (nI (vr + 1))) 13 as60) 14 wt61) 15 wf62) 16 ls9) (updR (updR (updR R 2 (.ref pq)) 3 (.ref mq)) 4 (va_rf lp9)) Z B58 J K57 w := hO.to rfl
    refine W.widen (k := 0) (n := 0) (by show 0 + 0 ≤ 0; omega) (by show 0 + 0 ≤ 0; omega) ?_
    refine W.eq (g2 := F0 m 65 ls []) rfl ?_
    have hst109 : StW pb.1 pb.2.1 pb.2.2.1 pb.2.2.2 Ag Ag64 Q9 Q9 pd pd m9 dp12 lw cs cs59 as9 as60 hd (hd + 1) sl (upM sl hd (tyc ty6)) gr gr (B58 16) (B58 17) (B58 18) (B58 19) (u65 :: ([] : List Nat)) := StW.ev hst34 (VaQ.ev (h76 trivial) h73 h108.1)
    have hut110 : UTb u65 (nI t63) as60 wt61 wf62 := VaQ.ut (h76 trivial) h108.1
    refine lv_aload_n hx hb dX0_local_65 rfl (lv_at hl 3 rfl) ?_
    refine c_get (v := .ref (a 2)) (C := RX0) (Tc := TX0) (N := 13) (ci := 0) hx hb hq pin_wsX00 hown hE hP hO 24 (sg_24 G h0 a _ _ _ _ _) rfl 1 (by decide) (hq _ pw_5) (fun _ h9 => h9) rfl dX0_local_66 ?_
    refine lv_iconst (v := 3) hx hb dX0_local_69 (by decide) ?_
    refine lv_iload hx hb dX0_local_70 (lv_at hl 0 rfl) ?_
    refine lv_iconst (v := 0) hx hb dX0_local_72 (by decide) ?_
    have hO : OKW G h0 a (upd (upd (upd (upd (upd (upd (upd (upd (upd (upd (upd (upd F 2 (nI sz)) 5 (nI cs59)) 6 (nI rg)) 7 (nI (hd + 1))) 8 (nI dp12)) 12 (nI (vr + 1))) 13 as60) 14 wt61) 15 wf62) 16 ls9) 5 (nI cs59)) 7 (nI (hd + 1))) (updR (updR (updR R 2 (.ref pq)) 3 (.ref mq)) 4 (va_rf lp9)) Z B58 J K57.1 (fun q99 x99 => x99 = rep G a K57 q99) w := hO.to rfl
    obtain ⟨_, qr114, hqr115⟩ := hO.2.1 13 _ (sg_13 G h0 a _ _ _ _ _)
    refine pc_V0 (G := G) (As := [.int 3, .int (nI hd), .int 0]) (rest := []) hx hb hml hown hq hE hX pX0_al hP hD hS hA hl.1 (Y_emit l G h0 a (upd (upd (upd (upd (upd (upd (upd (upd (upd (upd F 2 (nI sz)) 5 (nI cs59)) 6 (nI rg)) 7 (nI (hd + 1))) 8 (nI dp12)) 12 (nI (vr + 1))) 13 as60) 14 wt61) 15 wf62) 16 ls9) (updR (updR (updR R 2 (.ref pq)) 3 (.ref mq)) 4 (va_rf lp9)) Z B58 J K57.1 (fun q99 x99 => x99 = rep G a K57 q99) w 3 (nI hd) 0 cs59 (hd + 1) (by omega) hO) (gV pw_129 pw_130 pw_131 pw_70 pw_115) hV_X1_emit qr114 1 hqr115 rfl rfl rfl (Nat.le_of_ble_eq_true rfl) dX0_local_73 ⟨(by show 0 + 0 ≤ 1; omega), (by show 0 + 0 ≤ 6; omega)⟩ ⟨(by show 2 + 1 ≤ (5 * n + 33); omega), (by show 8 + (4 + 11) + 60 ≤ (200 * n + 560); omega)⟩ (fun v113 u111 H locs hw112 hP hD hS => ?_)
    obtain ⟨w, _⟩ := u111
    obtain ⟨hw112, hO⟩ := hw112
    obtain rfl : v113 = none := hw112
    have hO : OKP G h0 a (upd (upd (upd (upd (upd (upd (upd (upd (upd (upd F 2 (nI sz)) 5 (nI (cs59 + 1))) 6 (nI rg)) 7 (nI (hd + 1))) 8 (nI dp12)) 12 (nI (vr + 1))) 13 as60) 14 wt61) 15 wf62) 16 ls9) (updR (updR (updR R 2 (.ref pq)) 3 (.ref mq)) 4 (va_rf lp9)) Z (updA (updA (updA (updA B58 16 (upd ((B58 16)) cs59 3)) 17 (upd ((B58 17)) cs59 (nI hd))) 18 (upd ((B58 18)) cs59 0)) 19 (upd ((B58 19)) cs59 (nI (hd + 1)))) J K57 w := hO.to rfl
    refine W.widen (k := 0) (n := 0) (Nat.le_of_ble_eq_true rfl) (Nat.le_of_ble_eq_true rfl) ?_
    refine W.eq (g2 := F0 m 76 ls []) rfl ?_
    have hsw116 : ∀ x9 : Nat, x9 < cs → (upd ((B58 16)) cs59 3) x9 = B 16 x9 := fun x9 hx9 => (if_neg (by omega)).trans (hsw93 x9 hx9)
    have hsw117 : ∀ x9 : Nat, x9 < cs → (upd ((B58 17)) cs59 (nI hd)) x9 = B 17 x9 := fun x9 hx9 => (if_neg (by omega)).trans (hsw94 x9 hx9)
    have hsw118 : ∀ x9 : Nat, x9 < cs → (upd ((B58 18)) cs59 0) x9 = B 18 x9 := fun x9 hx9 => (if_neg (by omega)).trans (hsw95 x9 hx9)
    have hsw119 : ∀ x9 : Nat, x9 < cs → (upd ((B58 19)) cs59 (nI (hd + 1))) x9 = B 19 x9 := fun x9 hx9 => (if_neg (by omega)).trans (hsw96 x9 hx9)
    obtain ⟨Ag120, hst121⟩ : ∃ A5 : Nat → AS, StW pb.1 pb.2.1 pb.2.2.1 pb.2.2.2 Ag A5 Q9 Q9 pd pd m9 dp12 lw cs (cs59 + 1) as9 as60 hd (hd + 1) sl (upM sl hd (tyc ty6)) gr gr (upd ((B58 16)) cs59 3) (upd ((B58 17)) cs59 (nI hd)) (upd ((B58 18)) cs59 0) (upd ((B58 19)) cs59 (nI (hd + 1))) ([] : List Nat) := ⟨(upS Ag64 (cs59 + 1) (rcA as60, (hd + 1), (upM sl hd (tyc ty6)), ([] : List Nat))), StW.store hst109 (by omega) (by rw [upM_eq]; exact tyc_900 hvty6 hna.1.1) (by rw [upM_eq, tyc_ne h108.2.1]; exact UTb.tlf hut110 h73 h108)⟩
    have hng122 : Nng (upd ((B58 18)) cs59 0) := Nng.set hng92 (k := 0) (by omega)
    refine lv_aload_n hx hb dX0_local_76 rfl (lv_at hl 3 rfl) ?_
    refine lv_dup hx hb dX0_local_77 rfl ?_
    refine c_get (v := .int as60) (C := RX0) (Tc := TX0) (N := 13) (ci := 0) hx hb hq pin_wsX00 hown hE hP hO 24 (sg_24 G h0 a _ _ _ _ _) rfl 8 (by decide) (hq _ pw_55) (fun _ h9 => h9) rfl dX0_local_78 ?_
    refine lv_iconst (v := 1) hx hb dX0_local_81 (by decide) ?_
    refine lv_iload_n hx hb dX0_local_82 rfl (lv_at hl 1 rfl) ?_
    refine lv_ishl hx hb dX0_local_83 ?_
    refine lv_topi (fun x123 e124 => ?_)
    obtain rfl : x123 = ((1 : Int32) <<< (nI vr)) := e124.trans (congrArg (fun z9 => (1 : Int32) <<< z9) (nI_and31 _ (by omega)))
    refine lv_ior hx hb dX0_local_84 ?_
    refine lv_topi (fun x125 e126 => ?_)
    obtain rfl : x125 = (as60 ||| ((1 : Int32) <<< (nI vr))) := e126
    refine c_put (v := .int (as60 ||| ((1 : Int32) <<< (nI vr)))) (ty := .int) (C := RX0) (Tc := TX0) (N := 13) (ci := 0) hx hb hq pin_wsX00 tyX0 tyX0_ok nmX0 hown hE hP hD hS hO 24 (sg_24 G h0 a _ _ _ _ _) rfl 8 (by decide) (hq _ pw_55) (fun _ h9 => h9) rfl (by decide +kernel) rfl rfl (Nat.le_of_ble_eq_true rfl) (sf_13 G h0 a _ _ _ _ _ (as60 ||| ((1 : Int32) <<< (nI vr)))) dX0_local_85 (fun H locs w hP hD hS hO => ?_)
    have hbi127 := AsO.bit (v := vr) hao102.1 (by omega)
    have hst128 : StW pb.1 pb.2.1 pb.2.2.1 pb.2.2.2 Ag Ag120 Q9 Q9 pd pd m9 dp12 lw cs (cs59 + 1) as9 (as60 ||| ((1 : Int32) <<< (nI vr))) hd (hd + 1) sl (upM sl hd (tyc ty6)) gr gr (upd ((B58 16)) cs59 3) (upd ((B58 17)) cs59 (nI hd)) (upd ((B58 18)) cs59 0) (upd ((B58 19)) cs59 (nI (hd + 1))) ([] : List Nat) := StW.asg hst121 hbi127.2
    refine W_size (fun hz1 hz2 => ?_)
    refine vx_ret ?_
    have hz129 : SmW B (updA (updA (updA (updA B58 16 (upd ((B58 16)) cs59 3)) 17 (upd ((B58 17)) cs59 (nI hd))) 18 (upd ((B58 18)) cs59 0)) 19 (upd ((B58 19)) cs59 (nI (hd + 1)))) cs := (fun x9 hx9 => ⟨hsw116 x9 hx9, hsw117 x9 hx9, hsw118 x9 hx9, hsw119 x9 hx9⟩)
    have hz130 : BdE K K57 := hbe90
    have hz131 : BeF K K57 := hbf97
    have hz132 : BeL K K57 none := hbl99
    have hz133 : Bth B (updA (updA (updA (updA B58 16 (upd ((B58 16)) cs59 3)) 17 (upd ((B58 17)) cs59 (nI hd))) 18 (upd ((B58 18)) cs59 0)) 19 (upd ((B58 19)) cs59 (nI (hd + 1)))) := (show Thx (upd (upd (upd (upd (upd (upd (upd (upd F 2 (nI sz)) 5 (nI cs)) 6 (nI rg)) 7 (nI hd)) 8 (nI dp)) 12 (nI vr)) 13 as9) 16 ls9) (upd (upd (upd (upd (upd (upd (upd (upd (upd (upd (upd (upd (upd (upd (upd F 2 (nI sz)) 5 (nI cs)) 6 (nI rg)) 7 (nI hd)) 8 (nI dp)) 12 (nI vr)) 13 as9) 16 ls9) 5 (nI (cs59 + 1))) 7 (nI (hd + 1))) 8 (nI dp12)) 12 (nI (vr + 1))) 13 (as60 ||| ((1 : Int32) <<< (nI vr)))) 14 wt61) 15 wf62) B (updA (updA (updA (updA B58 16 (upd ((B58 16)) cs59 3)) 17 (upd ((B58 17)) cs59 (nI hd))) 18 (upd ((B58 18)) cs59 0)) 19 (upd ((B58 19)) cs59 (nI (hd + 1)))) from (Thx.b (Thx.b8 (Thx.b (Thx.b (Thx.f (Thx.f (Thx.f (Thx.f (Thx.f (Thx.f (Thx.f (Bth.thx hbb91) (by omega)) (by omega)) (by omega)) (by omega)) (by omega)) (by omega)) (by omega)) (by omega) (by decide)) (by omega) (by decide)) hng122) (by omega) (by decide))).2
    have hz134 : BsR B (updA (updA (updA (updA B58 16 (upd ((B58 16)) cs59 3)) 17 (upd ((B58 17)) cs59 (nI hd))) 18 (upd ((B58 18)) cs59 0)) 19 (upd ((B58 19)) cs59 (nI (hd + 1)))) := (BsR.up (BsR.up (BsR.up (BsR.up hbr98 (by omega)) (by omega)) (by omega)) (by omega))
    have hz135 : cs ≤ (cs59 + 1) ∧ (cs59 + 1) + 1 ≤ cs + 2 * tlE g q := (by omega)
    have hz136 : dp ≤ dp12 ∧ dp12 ≤ 71 := (by omega)
    have hz137 : vr ≤ (vr + 1) ∧ (vr + 1) ≤ 30 ∧ (hd + 1) + vr = hd + (vr + 1) := (by omega)
    have hz138 : AsO (as60 ||| ((1 : Int32) <<< (nI vr))) := hbi127.1
    have hz139 : VrS B (updA (updA (updA (updA B58 16 (upd ((B58 16)) cs59 3)) 17 (upd ((B58 17)) cs59 (nI hd))) 18 (upd ((B58 18)) cs59 0)) 19 (upd ((B58 19)) cs59 (nI (hd + 1)))) vr := hvs101
    have hz140 : cs < (cs59 + 1) := (by omega)
    have hz141 : EnV ((updA (updA (updA (updA B58 16 (upd ((B58 16)) cs59 3)) 17 (upd ((B58 17)) cs59 (nI hd))) 18 (upd ((B58 18)) cs59 0)) 19 (upd ((B58 19)) cs59 (nI (hd + 1)))) 26) ((updA (updA (updA (updA B58 16 (upd ((B58 16)) cs59 3)) 17 (upd ((B58 17)) cs59 (nI hd))) 18 (upd ((B58 18)) cs59 0)) 19 (upd ((B58 19)) cs59 (nI (hd + 1)))) 27) nd (vr + 1) (hd + 1) c0 (upM sl hd (tyc ty6)) := hen100
    have hz142 : StW pb.1 pb.2.1 pb.2.2.1 pb.2.2.2 Ag Ag120 Q9 Q9 pd pd m9 dp12 lw cs (cs59 + 1) as9 (as60 ||| ((1 : Int32) <<< (nI vr))) hd (hd + 1) sl (upM sl hd (tyc ty6)) gr gr ((updA (updA (updA (updA B58 16 (upd ((B58 16)) cs59 3)) 17 (upd ((B58 17)) cs59 (nI hd))) 18 (upd ((B58 18)) cs59 0)) 19 (upd ((B58 19)) cs59 (nI (hd + 1)))) 16) ((updA (updA (updA (updA B58 16 (upd ((B58 16)) cs59 3)) 17 (upd ((B58 17)) cs59 (nI hd))) 18 (upd ((B58 18)) cs59 0)) 19 (upd ((B58 19)) cs59 (nI (hd + 1)))) 17) ((updA (updA (updA (updA B58 16 (upd ((B58 16)) cs59 3)) 17 (upd ((B58 17)) cs59 (nI hd))) 18 (upd ((B58 18)) cs59 0)) 19 (upd ((B58 19)) cs59 (nI (hd + 1)))) 18) ((updA (updA (updA (updA B58 16 (upd ((B58 16)) cs59 3)) 17 (upd ((B58 17)) cs59 (nI hd))) 18 (upd ((B58 18)) cs59 0)) 19 (upd ((B58 19)) cs59 (nI (hd + 1)))) 19) [] := hst128
    have hO : OKP G h0 a (upd (upd (upd (upd (upd (upd (upd (upd (upd (upd F 2 (nI sz)) 5 (nI (cs59 + 1))) 6 (nI rg)) 7 (nI (hd + 1))) 8 (nI dp12)) 12 (nI (vr + 1))) 13 (as60 ||| ((1 : Int32) <<< (nI vr)))) 14 wt61) 15 wf62) 16 ls9) (updR (updR (updR R 2 (.ref pq)) 3 (.ref mq)) 4 (va_rf lp9)) Z (updA (updA (updA (updA B58 16 (upd ((B58 16)) cs59 3)) 17 (upd ((B58 17)) cs59 (nI hd))) 18 (upd ((B58 18)) cs59 0)) 19 (upd ((B58 19)) cs59 (nI (hd + 1)))) J K57 w := hO.to rfl
    refine W.widen (k := 1) (n := 6) (by omega) (by omega) ?_
    have hzz1 : H.size ≤ s.heap.size + (0) := (by have z : 0 ≤ 0 := (by omega); omega)
    have hzz2 : hSl H ≤ hSl s.heap + (0) := (by have z : 0 ≤ 0 := (by omega); omega)
    exact W.vret hx hb hr (fun t99 ht99 hW99 => ⟨⟨_, (w, (K57, (updA (updA (updA (updA B58 16 (upd ((B58 16)) cs59 3)) 17 (upd ((B58 17)) cs59 (nI hd))) 18 (upd ((B58 18)) cs59 0)) 19 (upd ((B58 19)) cs59 (nI (hd + 1)))), (cs59 + 1), (as60 ||| ((1 : Int32) <<< (nI vr))), wt61, wf62, (vr + 1), (hd + 1), dp12, Ag120, (upM sl hd (tyc ty6)))), rfl, ⟨rfl, hz129, hz130, hz131, hz132, hz133, hz134, hz135, hz136, hz137, hz138, hz139, hz140, hz141, hz142, hO⟩, by rw [ht99]; exact hP, hD, by rw [ht99]; exact hzz1, by rw [ht99]; exact hzz2⟩, hS.F ht99⟩) hS.2.2 dX0_local_88
set_option maxHeartbeats 24000000 in
set_option maxRecDepth 100000 in
theorem Y_throw (l : Launch) (G : pT) (h0 : Nat) (a : Nat → Nat) (F : Nat → Int32) (R : Nat → Value) (Z : Int64) (B : Nat → Nat → Int32) (J : Nat → Nat → Int64) (K : PK) (w : va_W) (pq : Nat) (dr : Nat) (ml : Nat) (nd : Nat) (nm : Nat) (cp : Nat) (it : Nat → Nat) (s9 : Nat) (q : Nat) (mq : Nat) (cs : Nat) (vr : Nat) (sz : Nat) (n : Nat) (q1 : Nat) (hd : Nat) (dp : Nat) (rg : Nat) (ls9 : Int32) (lp9 : Option Nat) (g : Nat → Nat → Nat) (rk : Nat → Nat) (pb : PNb) (Ag : Nat → AS) (Q9 : RX) (pd : Nat → Prop) (sl : Nat → Nat) (m9 : Nat) (lw : Nat) (c0 : Nat) (rt : Nat) (gr : Nat) (as9 : Int32) (hsz : sz ≤ 5000) (hwp : WPr G K g) (hps : PgT G K g (a 1) pq dr ml nd nm cp it s9) (hrk : RkO K rk) (hcs : cs ≤ 10000) (hvr : vr ≤ 30) (hng : Nng (B 18)) (hmq : K.1 mq = 3) (hqT : K.1 q = 1) (hqL : 1 ≤ g 0 q ∧ g 0 q ≤ n) (hrt : K.2.1 10 mq = nI rt) (hrv : TyV nd rt ∧ (bX pb).2.2.2.2.1 m9 = rt) (hdp : dp ≤ 71) (hrg : rg ≤ 625) (hhd : hd ≤ 41 + vr) (hlo : LpO K lp9) (hek : EkA pb K g (B 7) (B 11) sz) (hcO : OwC K dr mq c0) (hna : NaB pb G K (B 11) dr nd sz) (hen : EnV (B 26) (B 27) nd vr hd c0 sl) (hao : AsO as9) (hem : EmB pb B Ag pd m9 dp lw cs as9 hd sl []) (hrm : cs + 2 * tlE g q ≤ 9999) (hc0 : K.2.2.1 0 q = some q1) (ht0 : K.1 q1 = 1) (hv0 : 1 ≤ g 0 q1 ∧ g 0 q1 + 1 ≤ n) (hlf0 : 1 ≤ tlE g q1 ∧ 1 ≤ ndE g q1) (hnd0 : ndE g q1 ≤ 243) (htl : tlE g q1 + 2 ≤ tlE g q) (hO : OKP G h0 a (upd (upd (upd (upd (upd (upd (upd (upd F 2 (nI sz)) 5 (nI cs)) 6 (nI rg)) 7 (nI hd)) 8 (nI dp)) 12 (nI vr)) 13 as9) 16 ls9) (updR (updR (updR R 2 (.ref pq)) 3 (.ref mq)) 4 (va_rf lp9)) Z B J K w) (hl0 : l.stackTraces = false) : PBn l G pX0 yX0_throwStatement cX0_throwStatement 3 none ({ frames := (5 * n + 33), cells := 1, slots := 6, locals := (200 * n + 560) }) [.ref (a 4), .ref q] w (fun (v : Option Value) (u : va_W × (PK × (Nat → Nat → Int32) × Nat × Int32 × Int32 × Int32 × Nat × Nat × Nat × (Nat → AS) × (Nat → Nat))) => v = none ∧ (SmW B u.2.2.1 cs) ∧ (BdE K u.2.1) ∧ (BeF K u.2.1) ∧ (BeL K u.2.1 none) ∧ (Bth B u.2.2.1) ∧ (BsR B u.2.2.1) ∧ (cs ≤ u.2.2.2.1 ∧ u.2.2.2.1 + 1 ≤ cs + 2 * tlE g q) ∧ (dp ≤ u.2.2.2.2.2.2.2.2.2.1 ∧ u.2.2.2.2.2.2.2.2.2.1 ≤ 71) ∧ (vr ≤ u.2.2.2.2.2.2.2.1 ∧ u.2.2.2.2.2.2.2.1 ≤ 30 ∧ u.2.2.2.2.2.2.2.2.1 + vr = hd + u.2.2.2.2.2.2.2.1) ∧ (AsO u.2.2.2.2.1) ∧ (VrS B u.2.2.1 vr) ∧ (cs < u.2.2.2.1) ∧ (EnV (u.2.2.1 26) (u.2.2.1 27) nd u.2.2.2.2.2.2.2.1 u.2.2.2.2.2.2.2.2.1 c0 u.2.2.2.2.2.2.2.2.2.2.2) ∧ (StW pb.1 pb.2.1 pb.2.2.1 pb.2.2.2 Ag u.2.2.2.2.2.2.2.2.2.2.1 Q9 Q9 pd pd m9 u.2.2.2.2.2.2.2.2.2.1 lw cs u.2.2.2.1 as9 u.2.2.2.2.1 hd u.2.2.2.2.2.2.2.2.1 sl u.2.2.2.2.2.2.2.2.2.2.2 gr gr (u.2.2.1 16) (u.2.2.1 17) (u.2.2.1 18) (u.2.2.1 19) []) ∧ (u.2.2.2.2.2.2.2.2.1 = hd) ∧ (OKP G h0 a (upd (upd (upd (upd (upd (upd (upd (upd (upd (upd F 2 (nI sz)) 5 (nI u.2.2.2.1)) 6 (nI rg)) 7 (nI u.2.2.2.2.2.2.2.2.1)) 8 (nI u.2.2.2.2.2.2.2.2.2.1)) 12 (nI u.2.2.2.2.2.2.2.1)) 13 u.2.2.2.2.1) 14 u.2.2.2.2.2.1) 15 u.2.2.2.2.2.2.1) 16 ls9) (updR (updR (updR R 2 (.ref pq)) 3 (.ref mq)) 4 (va_rf lp9)) Z u.2.2.1 J u.2.1 u.1)) (fun u => u.1) (fun (u : va_W × (PK × (Nat → Nat → Int32) × Nat × Int32 × Int32 × Int32 × Nat × Nat × Nat × (Nat → AS) × (Nat → Nat))) => 0) (fun (u : va_W × (PK × (Nat → Nat → Int32) × Nat × Int32 × Int32 × Int32 × Nat × Nat × Nat × (Nat → AS) × (Nat → Nat))) => 0) (fun (u : va_W × (Nat → Int32) × (Nat → Value) × (Nat → Nat → Int32)) => ThQ G h0 a (upd (upd (upd (upd (upd (upd (upd (upd F 2 (nI sz)) 5 (nI cs)) 6 (nI rg)) 7 (nI hd)) 8 (nI dp)) 12 (nI vr)) 13 as9) 16 ls9) (updR (updR (updR R 2 (.ref pq)) 3 (.ref mq)) 4 (va_rf lp9)) Z B J u) (fun u => u.1) := by
  intro sz
  refine vx_ofW (cc := cX0_throwStatement) (maxL := 3) (ret := none) (by decide) rfl ?_
  intro p e s m args below meth c s₁ B9 hml hnt hv
  obtain ⟨rfl, hsz, hP, hD0, hE, hX⟩ := hv
  have hx := B9.exec
  have hb := B9.bytes
  have hr := B9.returns
  have hts := atoms_spec (ws := Cond.code yX0_throwStatement cX0_throwStatement 3 none :: pw) B9.pre
  have hq : ∀ w ∈ pw, w.before _ s = true := fun w h => hts w (List.mem_cons_of_mem _ h)
  have hown : s.vm.findClass RX0 = some m.cls := findClass_of_methodNamed B9.named
  have hlocks := B9.notSynchronized
  subst hsz
  have hD := hD0.self (sz := s.heap.size)
  have hA : ∀ q : Nat, s.heap.size ≤ q → va_A w s.heap.size q := fun q h => Or.inr h
  generalize va_A w s.heap.size = A at hD hE hA ⊢
  have hS : va_S A s.heap s.heap [] := va_S.rf
  have hl := lv_entry ([.ref (a 4), .ref q]) (n := 3) (Nat.le_of_ble_eq_true rfl)
  rw [lg_entry_eq]
  generalize (lg_sl ([.ref (a 4), .ref q]) ++ List.replicate (3 - (lg_sl ([.ref (a 4), .ref q])).length) Slot.unset).toArray = ls at hl ⊢
  have hl : lv_has ls 3 [(0, .ref (a 4)), (1, .ref q)] := hl
  have hpg := hps.1
  have hp1 := hpg.1
  have hp2 := hpg.2.1
  have hp3 := hpg.2.2.1
  have hp4 := hpg.2.2.2.1
  have hp5 := hpg.2.2.2.2.1
  have hp6 := hpg.2.2.2.2.2.1
  have hp8 := hpg.2.2.2.2.2.2.2.1
  have hp9 := hpg.2.2.2.2.2.2.2.2
  have hdr0 : ¬ K.1 dr = 0 := by rw [hp4]; decide
  have hrl := hrv.1.lt hna.1.1
  have hst0 : StW pb.1 pb.2.1 pb.2.2.1 pb.2.2.2 Ag Ag Q9 Q9 pd pd m9 dp lw cs cs as9 as9 hd hd sl sl gr gr (B 16) (B 17) (B 18) (B 19) ([] : List Nat) := StW.nil hem
  refine lv_aload_n hx hb dX0_throwStatement_0 rfl (lv_at hl 0 rfl) ?_
  refine c_get (v := .ref pq) (C := RX0) (Tc := TX0) (N := 13) (ci := 0) hx hb hq pin_wsX00 hown hE hP hO 24 (sg_24 G h0 a _ _ _ _ _) rfl 6 (by decide) (hq _ pw_110) (fun _ h9 => h9) rfl dX0_throwStatement_1 ?_
  refine lv_aload_n hx hb dX0_throwStatement_4 rfl (lv_at hl 0 rfl) ?_
  refine lv_aload_n hx hb dX0_throwStatement_5 rfl (lv_at hl 1 rfl) ?_
  refine p_get (v := .ref q1) (C := RX7) (Tc := TX7) (N := 11) (ci := 13) hx hb hq pin_wsX70 hown hE hP hO (by rw [hqT]; decide) (rep_1 hqT) rfl 6 (by decide) (hq _ pw_180) (fun _ h9 => h9) (congrArg (fun z => some (va_rf z)) hc0) dX0_throwStatement_6 ?_
  have hO : OKP G h0 a (upd (upd (upd (upd (upd (upd (upd (upd (upd (upd (upd (upd (upd F 2 (nI sz)) 5 (nI cs)) 6 (nI rg)) 7 (nI hd)) 8 (nI dp)) 12 (nI vr)) 13 as9) 16 ls9) 2 (nI sz)) 5 (nI cs)) 7 (nI hd)) 12 (nI vr)) 13 as9) (updR (updR (updR (updR (updR R 2 (.ref pq)) 3 (.ref mq)) 4 (va_rf lp9)) 2 (.ref pq)) 3 (.ref mq)) Z B J K w := hO.to rfl
  obtain ⟨_, qr4, hqr5⟩ := hO.2.1 24 _ (sg_24 G h0 a _ _ _ _ _)
  refine pn_V0 (G := G) (As := [.ref q1]) (rest := [.ref pq]) hx hb hml hown hq hE hX pX0_al hP hD hS hA hl.1 ((PY_all l G (n - 1)) h0 a (upd (upd (upd (upd (upd (upd (upd (upd F 2 (nI sz)) 5 (nI cs)) 6 (nI rg)) 7 (nI hd)) 8 (nI dp)) 12 (nI vr)) 13 as9) 16 ls9) (updR (updR (updR R 2 (.ref pq)) 3 (.ref mq)) 4 (va_rf lp9)) Z B J K w pq dr ml nd nm cp it s9 q1 mq cs vr sz g rk pb Ag pd sl ([] : List Nat) m9 dp lw hd c0 as9 True (by omega) (BdE.wp BdE.rfl hwp) (BdE.pt BdE.rfl hwp hps) (BdE.rko BdE.rfl hrk) (by omega) (by omega) hng hmq ht0 ⟨hv0.1, (by have z9 := hv0; omega)⟩ (EkA.be BdE.rfl (BsR.rfl 7 (by decide) (by decide)) (BsR.rfl 11 (by decide) (by decide)) hek) (OwC.be BdE.rfl hmq hdr0 hcO) (NaB.be BdE.rfl BeF.rfl hwp hps.2.1 hdr0 (BsR.rfl 11 (by decide) (by decide)) hna) hen (fun _ => hst0.1) (by omega) (by show 0 + ndE g q1 ≤ 248; omega) hlf0 hO hl0) (gV pw_173 pw_174 pw_175 pw_63 pw_224) hV_X0_value qr4 0 hqr5 rfl rfl rfl (Nat.le_of_ble_eq_true rfl) dX0_throwStatement_9 ⟨(by show 0 + 1 ≤ 1; omega), (by show 0 + 6 ≤ 6; omega)⟩ ⟨(by show (5 * (n - 1) + 34) + 1 ≤ (5 * n + 33); omega), (by show 8 + (3 + 11) + (200 * (n - 1) + 600) ≤ (200 * n + 560); omega)⟩ (fun v3 u1 H locs hw2 hP hD hS => ?_) (fun ux ce9 q9 H9 locs9 hux hP9 hD9 hS9 hce hcv hcl => pb_out ux (ThQ.up (Thx.same (Thx.same (Thx.same (Thx.same (Thx.same Thx.rfl rfl) rfl) rfl) rfl) rfl) (show RhX (updR (updR (updR R 2 (.ref pq)) 3 (.ref mq)) 4 (va_rf lp9)) (updR (updR (updR (updR (updR R 2 (.ref pq)) 3 (.ref mq)) 4 (va_rf lp9)) 2 (.ref pq)) 3 (.ref mq)) from fun k9 hk9 => by unfold updR; simp only [show ¬ k9 = 1 by omega, show ¬ k9 = 2 by omega, show ¬ k9 = 3 by omega, show ¬ k9 = 4 by omega, if_false]) hux) hnt hlocks hce hcv hcl hP9 hD9 hS9 (by show 0 + 1 ≤ 1; omega) (by show 0 + 6 ≤ 6; omega))
  obtain ⟨w, K6, B7, cs8, as10, wt11, wf12, t13, Ag14, u15⟩ := u1
  obtain ⟨hw2, h16, h17, h18, h19, h20, h21, h22, h23, h24, h25, h26, h27, hO⟩ := hw2
  have h16 : SmW B B7 cs := h16
  have h17 : BdE K K6 := h17
  have h18 : BeF K K6 := h18
  have h19 : BeL K K6 none := h19
  have h20 : BeI K K6 g q1 := h20
  have h21 : Bth B B7 := h21
  have h22 : BeR B B7 := h22
  have h23 : t13 < 128 := h23
  have h24 : cs ≤ cs8 ∧ cs8 + 0 ≤ cs + 2 * tlE g q1 := h24
  have h25 : AsE as9 as10 ∧ AsE as9 wt11 ∧ AsE as9 wf12 := h25
  have h26 : True → VaQ pb B B7 Ag Ag14 pd m9 dp lw cs cs8 as9 as10 wt11 wf12 hd sl ([] : List Nat) t13 u15 (K.2.1 0 q1) := h26
  have h27 : CaK (K.2.1 0 q1) → cs8 + 2 ≤ cs + 2 * tlE g q1 := h27
  obtain rfl : v3 = some (.int (nI t13)) := hw2
  have hf28 : K6.1 pq = 7 := (BdE.T h17 hp1 (by decide))
  have hf29 : K6.2.2.1 18 pq = some (a 1) := (BdE.C h17 (by rw [hp1]; decide) 18).trans hp2
  have hf30 : K6.2.2.1 14 pq = some dr := (BdE.C h17 (by rw [hp1]; decide) 14).trans hp3
  have hf31 : K6.1 dr = 8 := (BdE.T h17 hp4 (by decide))
  have hf32 : K6.2.2.1 15 pq = some ml := (BdE.C h17 (by rw [hp1]; decide) 15).trans hp5
  have hf33 : K6.1 ml = 5 := (BdE.T h17 hp6 (by decide))
  have hf34 : K6.2.1 24 pq = (nI nd) := (BdE.I h17 (by rw [hp1]; decide) (by decide) (by decide)).trans hp8
  have hf35 : K6.1 q = 1 := (BdE.T h17 hqT (by decide))
  have hf36 : K6.1 mq = 3 := (BdE.T h17 hmq (by decide))
  have hf37 : K6.2.1 10 mq = (nI rt) := (BdE.I h17 (by rw [hmq]; decide) (by decide) (by decide)).trans hrt
  have hf38 : K6.2.2.1 0 q = some q1 := (BdE.C h17 (by rw [hqT]; decide) 0).trans hc0
  have hf39 : K6.1 q1 = 1 := (BdE.T h17 ht0 (by decide))
  have hO : OKP G h0 a (upd (upd (upd (upd (upd (upd (upd (upd (upd (upd F 2 (nI sz)) 5 (nI cs8)) 6 (nI rg)) 7 (nI hd)) 8 (nI dp)) 12 (nI vr)) 13 as10) 14 wt11) 15 wf12) 16 ls9) (updR (updR (updR R 2 (.ref pq)) 3 (.ref mq)) 4 (va_rf lp9)) Z B7 J K6 w := hO.to rfl
  refine W.widen (k := 0) (n := 0) (by show 0 + 0 ≤ 0; omega) (by show 0 + 0 ≤ 0; omega) ?_
  refine W.eq (g2 := F0 m 12 ls [.int (nI t13), .ref pq]) rfl ?_
  have hbe40 := BdE.trans BdE.rfl h17
  have hbb41 : Bth B B7 := Bth.trans (show Thx (upd (upd (upd (upd (upd (upd (upd (upd F 2 (nI sz)) 5 (nI cs)) 6 (nI rg)) 7 (nI hd)) 8 (nI dp)) 12 (nI vr)) 13 as9) 16 ls9) (upd (upd (upd (upd (upd (upd (upd (upd F 2 (nI sz)) 5 (nI cs)) 6 (nI rg)) 7 (nI hd)) 8 (nI dp)) 12 (nI vr)) 13 as9) 16 ls9) B B from Thx.rfl).2 h21
  have hng42 : Nng (B7 18) := h21.2 hng
  have hsw43 : ∀ x9 : Nat, x9 < cs → (B7 16) x9 = B 16 x9 := fun x9 hx9 => ((h16 x9 (by omega)).1).trans ((fun _ _ => rfl) x9 hx9)
  have hsw44 : ∀ x9 : Nat, x9 < cs → (B7 17) x9 = B 17 x9 := fun x9 hx9 => ((h16 x9 (by omega)).2.1).trans ((fun _ _ => rfl) x9 hx9)
  have hsw45 : ∀ x9 : Nat, x9 < cs → (B7 18) x9 = B 18 x9 := fun x9 hx9 => ((h16 x9 (by omega)).2.2.1).trans ((fun _ _ => rfl) x9 hx9)
  have hsw46 : ∀ x9 : Nat, x9 < cs → (B7 19) x9 = B 19 x9 := fun x9 hx9 => ((h16 x9 (by omega)).2.2.2).trans ((fun _ _ => rfl) x9 hx9)
  have hbf47 := BeF.trans BeF.rfl h18 BdE.rfl
  have hbl49 := BeL.trans BeL.rfl h19 BdE.rfl
  have hbr48 : BsR B B7 := BsR.trans BsR.rfl (BeR.bs h22)
  have hen50 : EnV (B7 26) (B7 27) nd vr hd c0 sl := EnV.of (h22 26 (by decide)) (h22 27 (by decide)) hen
  have hvs51 : VrS B B7 vr := fun i9 hi9 => ⟨(congrFun (h22 26 (by decide)) i9).trans (VrS.rfl i9 hi9).1, (congrFun (h22 27 (by decide)) i9).trans (VrS.rfl i9 hi9).2⟩
  have hao52 : AsO as10 ∧ AsO wt11 ∧ AsO wf12 := ⟨AsE.aso h25.1 hao, AsE.aso h25.2.1 hao, AsE.aso h25.2.2 hao⟩
  have hO : OKP G h0 a (upd (upd (upd (upd (upd (upd (upd (upd (upd (upd F 2 (nI sz)) 5 (nI cs8)) 6 (nI rg)) 7 (nI hd)) 8 (nI dp)) 12 (nI vr)) 13 as10) 14 wt11) 15 wf12) 16 ls9) (updR (updR (updR R 2 (.ref pq)) 3 (.ref mq)) 4 (va_rf lp9)) Z B7 J K6 w := hO.to rfl
  obtain ⟨qr56, hqr57⟩ := p_recv hO (by rw [hf28]; decide) (rep_7 hf28)
  refine pc_V0 (G := G) (As := [.int (nI t13)]) (rest := []) hx hb hml hown hq hE hX pX0_al hP hD hS hA hl.1 (G_decl l G h0 a (upd (upd (upd (upd (upd (upd (upd (upd (upd (upd F 2 (nI sz)) 5 (nI cs8)) 6 (nI rg)) 7 (nI hd)) 8 (nI dp)) 12 (nI vr)) 13 as10) 14 wt11) 15 wf12) 16 ls9) (updR (updR (updR R 2 (.ref pq)) 3 (.ref mq)) 4 (va_rf lp9)) Z B7 J K6 w pq dr ml nd (nI t13) g (BdE.pt hbe40 hwp hps).1 (BdE.pt hbe40 hwp hps).2.1 hO) (gV pw_181 pw_182 pw_183 pw_106 pw_13) hV_X9_decl qr56 6 hqr57 rfl rfl rfl (Nat.le_of_ble_eq_true rfl) dX0_throwStatement_12 ⟨(by show 0 + 0 ≤ 1; omega), (by show 0 + 0 ≤ 6; omega)⟩ ⟨(by show 2 + 1 ≤ (5 * n + 33); omega), (by show 8 + (2 + 11) + 60 ≤ (200 * n + 560); omega)⟩ (fun v55 u53 H locs hw54 hP hD hS => ?_)
  obtain ⟨w, o58⟩ := u53
  obtain ⟨hw54, h59, h60, hO⟩ := hw54
  have h59 : DoN K6 o58 := h59
  have h60 : DoK K6 dr nd (nI t13) o58 := h60
  obtain rfl : v55 = some ((va_rf o58)) := hw54
  have hO : OKP G h0 a (upd (upd (upd (upd (upd (upd (upd (upd (upd (upd F 2 (nI sz)) 5 (nI cs8)) 6 (nI rg)) 7 (nI hd)) 8 (nI dp)) 12 (nI vr)) 13 as10) 14 wt11) 15 wf12) 16 ls9) (updR (updR (updR R 2 (.ref pq)) 3 (.ref mq)) 4 (va_rf lp9)) Z B7 J K6 w := hO.to rfl
  refine W.widen (k := 0) (n := 0) (Nat.le_of_ble_eq_true rfl) (Nat.le_of_ble_eq_true rfl) ?_
  refine W.eq (g2 := F0 m 15 ls [(va_rf o58)]) rfl ?_
  rcases o58 with _ | d61
  · have hl : lv_has ls 3 [(0, .ref (a 4)), (1, .ref q)] := hl
    refine W.eq (g2 := F0 m 15 ls [.null]) rfl ?_
    refine lv_astore_nN (lv' := [(2, .null), (0, .ref (a 4)), (1, .ref q)]) hx hb dX0_throwStatement_15 rfl hl (by decide) rfl (fun ls hl => ?_)
    refine lv_aload_nN hx hb dX0_throwStatement_16 rfl (lv_at hl 0 rfl) ?_
    refine lv_ifnullN (tgt := 27) hx hb dX0_throwStatement_17 (by decide) ?_
    refine lv_aload_n hx hb dX0_throwStatement_27 rfl (lv_at hl 1 rfl) ?_
    refine c_get (v := .ref (a 1)) (C := RX0) (Tc := TX0) (N := 13) (ci := 0) hx hb hq pin_wsX00 hown hE hP hO 24 (sg_24 G h0 a _ _ _ _ _) rfl 0 (by decide) (hq _ pw_4) (fun _ h9 => h9) rfl dX0_throwStatement_28 ?_
    refine lv_bipush (v := 11) hx hb dX0_throwStatement_31 (by decide) ?_
    refine lv_aload_n hx hb dX0_throwStatement_33 rfl (lv_at hl 2 rfl) ?_
    refine p_get (v := .ref q1) (C := RX7) (Tc := TX7) (N := 11) (ci := 13) hx hb hq pin_wsX70 hown hE hP hO (by rw [hf35]; decide) (rep_1 hf35) rfl 6 (by decide) (hq _ pw_180) (fun _ h9 => h9) (congrArg (fun z => some (va_rf z)) hf38) dX0_throwStatement_34 ?_
    refine p_get (v := .int (K6.2.1 2 q1)) (C := RX7) (Tc := TX7) (N := 11) (ci := 13) hx hb hq pin_wsX70 hown hE hP hO (by rw [hf39]; decide) (rep_1 hf39) rfl 2 (by decide) (hq _ pw_82) (fun _ h9 => h9) rfl dX0_throwStatement_37 ?_
    have hO : OKW G h0 a (upd (upd (upd (upd (upd (upd (upd (upd (upd (upd (upd (upd (upd F 2 (nI sz)) 5 (nI cs)) 6 (nI rg)) 7 (nI hd)) 8 (nI dp)) 12 (nI vr)) 13 as9) 16 ls9) 5 (nI cs8)) 13 as10) 14 wt11) 15 wf12) 2 (nI sz)) (updR (updR (updR R 2 (.ref pq)) 3 (.ref mq)) 4 (va_rf lp9)) Z B7 J K6.1 (fun q99 x99 => x99 = rep G a K6 q99) w := hO.to rfl
    obtain ⟨_, qr65, hqr66⟩ := hO.2.1 2 _ (sg_2 G h0 a _ _ _ _ _)
    refine pn_V0 (G := G) (As := [.int 11, .int (K6.2.1 2 q1)]) (rest := []) hx hb hml hown hq hE hX pX0_al hP hD hS hA hl.1 (K_fail l G h0 a (upd (upd (upd (upd (upd (upd (upd (upd (upd (upd (upd (upd F 2 (nI sz)) 5 (nI cs)) 6 (nI rg)) 7 (nI hd)) 8 (nI dp)) 12 (nI vr)) 13 as9) 16 ls9) 5 (nI cs8)) 13 as10) 14 wt11) 15 wf12) (updR (updR (updR R 2 (.ref pq)) 3 (.ref mq)) 4 (va_rf lp9)) Z B7 J K6.1 (fun q99 x99 => x99 = rep G a K6 q99) w 11 (K6.2.1 2 q1) sz (by omega) hO hl0) (gV pw_64 pw_65 pw_66 pw_59 pw_43) hV_X10_fail qr65 7 hqr66 rfl rfl rfl (Nat.le_of_ble_eq_true rfl) dX0_throwStatement_40 ⟨(by show 0 + 1 ≤ 1; omega), (by show 0 + 6 ≤ 6; omega)⟩ ⟨(by show 6 + 1 ≤ (5 * n + 33); omega), (by show 8 + (3 + 11) + 100 ≤ (200 * n + 560); omega)⟩ (fun v64 u62 H locs hw63 hP hD hS => hw63.elim) (fun ux ce9 q9 H9 locs9 hux hP9 hD9 hS9 hce hcv hcl => pb_out ux (ThQ.up (Thx.same (Thx.f (Thx.f (Thx.f (Thx.f (Bth.thx hbb41) (by omega)) (by omega)) (by omega)) (by omega)) rfl) RhX.rfl hux) hnt hlocks hce hcv hcl hP9 hD9 hS9 (by show 0 + 1 ≤ 1; omega) (by show 0 + 6 ≤ 6; omega))
  · have hl : lv_has ls 3 [(0, .ref (a 4)), (1, .ref q)] := hl
    refine W.eq (g2 := F0 m 15 ls [.ref d61]) rfl ?_
    have hf67 : K6.1 d61 = 4 := h59 d61 rfl
    obtain ⟨k9, hk9, hx9, hr9⟩ := h60 d61 rfl
    have hk8 : t13 = k9 := (nI_eq (by omega) (by have z9 := hna.1.1; omega)).mp hx9
    have h379 := hna.1.1
    refine lv_astore_n (lv' := [(2, .ref d61), (0, .ref (a 4)), (1, .ref q)]) hx hb dX0_throwStatement_15 rfl hl (by decide) rfl (fun ls hl => ?_)
    refine lv_aload_n hx hb dX0_throwStatement_16 rfl (lv_at hl 0 rfl) ?_
    refine lv_ifnull hx hb dX0_throwStatement_17 ?_
    refine lv_aload_n hx hb dX0_throwStatement_20 rfl (lv_at hl 0 rfl) ?_
    refine p_get (v := .int (K6.2.1 18 d61)) (C := RX2) (Tc := TX2) (N := 13) (ci := 2) hx hb hq pin_wsX20 hown hE hP hO (by rw [hf67]; decide) (rep_4 hf67) rfl 3 (by decide) (hq _ pw_211) (fun _ h9 => h9) rfl dX0_throwStatement_21 ?_
    refine lv_if_eq (tgt := 43) hx hb dX0_throwStatement_24 (by decide) (fun c68 => ?_) (fun c68 => ?_)
    · refine lv_aload_n hx hb dX0_throwStatement_43 rfl (lv_at hl 1 rfl) ?_
      refine c_get (v := .ref (a 2)) (C := RX0) (Tc := TX0) (N := 13) (ci := 0) hx hb hq pin_wsX00 hown hE hP hO 24 (sg_24 G h0 a _ _ _ _ _) rfl 1 (by decide) (hq _ pw_5) (fun _ h9 => h9) rfl dX0_throwStatement_44 ?_
      refine lv_bipush (v := 25) hx hb dX0_throwStatement_47 (by decide) ?_
      refine lv_iconst (v := 0) hx hb dX0_throwStatement_49 (by decide) ?_
      refine lv_iconst (v := 0) hx hb dX0_throwStatement_50 (by decide) ?_
      have hst69 : StW pb.1 pb.2.1 pb.2.2.1 pb.2.2.2 Ag Ag14 Q9 Q9 pd pd m9 dp lw cs cs8 as9 as10 hd hd sl sl gr gr (B7 16) (B7 17) (B7 18) (B7 19) (u15 :: ([] : List Nat)) := StW.ev hst0 (VaQ.ev (h26 trivial) h23 (by omega))
      have hut70 : UTb u15 (nI t13) as10 wt11 wf12 := VaQ.ut (h26 trivial) (by omega)
      have hO : OKW G h0 a (upd (upd (upd (upd (upd (upd (upd (upd (upd (upd (upd (upd F 2 (nI sz)) 5 (nI cs8)) 6 (nI rg)) 7 (nI hd)) 8 (nI dp)) 12 (nI vr)) 13 as10) 14 wt11) 15 wf12) 16 ls9) 5 (nI cs8)) 7 (nI hd)) (updR (updR (updR R 2 (.ref pq)) 3 (.ref mq)) 4 (va_rf lp9)) Z B7 J K6.1 (fun q99 x99 => x99 = rep G a K6 q99) w := hO.to rfl
      obtain ⟨_, qr74, hqr75⟩ := hO.2.1 13 _ (sg_13 G h0 a _ _ _ _ _)
      refine pc_V0 (G := G) (As := [.int 25, .int 0, .int 0]) (rest := []) hx hb hml hown hq hE hX pX0_al hP hD hS hA hl.1 (Y_emit l G h0 a (upd (upd (upd (upd (upd (upd (upd (upd (upd (upd F 2 (nI sz)) 5 (nI cs8)) 6 (nI rg)) 7 (nI hd)) 8 (nI dp)) 12 (nI vr)) 13 as10) 14 wt11) 15 wf12) 16 ls9) (updR (updR (updR R 2 (.ref pq)) 3 (.ref mq)) 4 (va_rf lp9)) Z B7 J K6.1 (fun q99 x99 => x99 = rep G a K6 q99) w 25 0 0 cs8 hd (by omega) hO) (gV pw_129 pw_130 pw_131 pw_70 pw_115) hV_X1_emit qr74 1 hqr75 rfl rfl rfl (Nat.le_of_ble_eq_true rfl) dX0_throwStatement_51 ⟨(by show 0 + 0 ≤ 1; omega), (by show 0 + 0 ≤ 6; omega)⟩ ⟨(by show 2 + 1 ≤ (5 * n + 33); omega), (by show 8 + (4 + 11) + 60 ≤ (200 * n + 560); omega)⟩ (fun v73 u71 H locs hw72 hP hD hS => ?_)
      obtain ⟨w, _⟩ := u71
      obtain ⟨hw72, hO⟩ := hw72
      obtain rfl : v73 = none := hw72
      have hO : OKP G h0 a (upd (upd (upd (upd (upd (upd (upd (upd (upd (upd F 2 (nI sz)) 5 (nI (cs8 + 1))) 6 (nI rg)) 7 (nI hd)) 8 (nI dp)) 12 (nI vr)) 13 as10) 14 wt11) 15 wf12) 16 ls9) (updR (updR (updR R 2 (.ref pq)) 3 (.ref mq)) 4 (va_rf lp9)) Z (updA (updA (updA (updA B7 16 (upd ((B7 16)) cs8 25)) 17 (upd ((B7 17)) cs8 0)) 18 (upd ((B7 18)) cs8 0)) 19 (upd ((B7 19)) cs8 (nI hd))) J K6 w := hO.to rfl
      refine W.widen (k := 0) (n := 0) (Nat.le_of_ble_eq_true rfl) (Nat.le_of_ble_eq_true rfl) ?_
      refine W.eq (g2 := F0 m 54 ls []) rfl ?_
      have hsw76 : ∀ x9 : Nat, x9 < cs → (upd ((B7 16)) cs8 25) x9 = B 16 x9 := fun x9 hx9 => (if_neg (by omega)).trans (hsw43 x9 hx9)
      have hsw77 : ∀ x9 : Nat, x9 < cs → (upd ((B7 17)) cs8 0) x9 = B 17 x9 := fun x9 hx9 => (if_neg (by omega)).trans (hsw44 x9 hx9)
      have hsw78 : ∀ x9 : Nat, x9 < cs → (upd ((B7 18)) cs8 0) x9 = B 18 x9 := fun x9 hx9 => (if_neg (by omega)).trans (hsw45 x9 hx9)
      have hsw79 : ∀ x9 : Nat, x9 < cs → (upd ((B7 19)) cs8 (nI hd)) x9 = B 19 x9 := fun x9 hx9 => (if_neg (by omega)).trans (hsw46 x9 hx9)
      obtain ⟨Ag80, hst81⟩ : ∃ A5 : Nat → AS, StW pb.1 pb.2.1 pb.2.2.1 pb.2.2.2 Ag A5 Q9 Q9 pd pd m9 dp lw cs (cs8 + 1) as9 (-1) hd hd sl sl gr gr (upd ((B7 16)) cs8 25) (upd ((B7 17)) cs8 0) (upd ((B7 18)) cs8 0) (upd ((B7 19)) cs8 (nI hd)) ([] : List Nat) := ⟨(upS Ag14 (cs8 + 1) (rcA (-1), hd, sl, ([] : List Nat))), StW.throw hst69 (by rw [UTb.eq hut70 h23 (by omega)]; exact RfT.of h23 (by omega) (by omega) (by omega))⟩
      have hng82 : Nng (upd ((B7 18)) cs8 0) := Nng.set hng42 (k := 0) (by omega)
      refine lv_aload_n hx hb dX0_throwStatement_54 rfl (lv_at hl 1 rfl) ?_
      refine lv_iconst (v := (-1)) hx hb dX0_throwStatement_55 (by decide) ?_
      refine c_put (v := .int (-1)) (ty := .int) (C := RX0) (Tc := TX0) (N := 13) (ci := 0) hx hb hq pin_wsX00 tyX0 tyX0_ok nmX0 hown hE hP hD hS hO 24 (sg_24 G h0 a _ _ _ _ _) rfl 8 (by decide) (hq _ pw_55) (fun _ h9 => h9) rfl (by decide +kernel) rfl rfl (Nat.le_of_ble_eq_true rfl) (sf_13 G h0 a _ _ _ _ _ (-1)) dX0_throwStatement_56 (fun H locs w hP hD hS hO => ?_)
      refine W_size (fun hz1 hz2 => ?_)
      refine vx_ret ?_
      have hz83 : SmW B (updA (updA (updA (updA B7 16 (upd ((B7 16)) cs8 25)) 17 (upd ((B7 17)) cs8 0)) 18 (upd ((B7 18)) cs8 0)) 19 (upd ((B7 19)) cs8 (nI hd))) cs := (fun x9 hx9 => ⟨hsw76 x9 hx9, hsw77 x9 hx9, hsw78 x9 hx9, hsw79 x9 hx9⟩)
      have hz84 : BdE K K6 := hbe40
      have hz85 : BeF K K6 := hbf47
      have hz86 : BeL K K6 none := hbl49
      have hz87 : Bth B (updA (updA (updA (updA B7 16 (upd ((B7 16)) cs8 25)) 17 (upd ((B7 17)) cs8 0)) 18 (upd ((B7 18)) cs8 0)) 19 (upd ((B7 19)) cs8 (nI hd))) := (show Thx (upd (upd (upd (upd (upd (upd (upd (upd F 2 (nI sz)) 5 (nI cs)) 6 (nI rg)) 7 (nI hd)) 8 (nI dp)) 12 (nI vr)) 13 as9) 16 ls9) (upd (upd (upd (upd (upd (upd (upd (upd (upd (upd (upd (upd F 2 (nI sz)) 5 (nI cs)) 6 (nI rg)) 7 (nI hd)) 8 (nI dp)) 12 (nI vr)) 13 as9) 16 ls9) 5 (nI (cs8 + 1))) 13 (-1)) 14 wt11) 15 wf12) B (updA (updA (updA (updA B7 16 (upd ((B7 16)) cs8 25)) 17 (upd ((B7 17)) cs8 0)) 18 (upd ((B7 18)) cs8 0)) 19 (upd ((B7 19)) cs8 (nI hd))) from (Thx.b (Thx.b8 (Thx.b (Thx.b (Thx.f (Thx.f (Thx.f (Thx.f (Bth.thx hbb41) (by omega)) (by omega)) (by omega)) (by omega)) (by omega) (by decide)) (by omega) (by decide)) hng82) (by omega) (by decide))).2
      have hz88 : BsR B (updA (updA (updA (updA B7 16 (upd ((B7 16)) cs8 25)) 17 (upd ((B7 17)) cs8 0)) 18 (upd ((B7 18)) cs8 0)) 19 (upd ((B7 19)) cs8 (nI hd))) := (BsR.up (BsR.up (BsR.up (BsR.up hbr48 (by omega)) (by omega)) (by omega)) (by omega))
      have hz89 : cs ≤ (cs8 + 1) ∧ (cs8 + 1) + 1 ≤ cs + 2 * tlE g q := (by omega)
      have hz90 : dp ≤ dp ∧ dp ≤ 71 := (by omega)
      have hz91 : vr ≤ vr ∧ vr ≤ 30 ∧ hd + vr = hd + vr := (by omega)
      have hz92 : AsO ((-1) : Int32) := AsO.m1
      have hz93 : VrS B (updA (updA (updA (updA B7 16 (upd ((B7 16)) cs8 25)) 17 (upd ((B7 17)) cs8 0)) 18 (upd ((B7 18)) cs8 0)) 19 (upd ((B7 19)) cs8 (nI hd))) vr := hvs51
      have hz94 : cs < (cs8 + 1) := (by omega)
      have hz95 : EnV ((updA (updA (updA (updA B7 16 (upd ((B7 16)) cs8 25)) 17 (upd ((B7 17)) cs8 0)) 18 (upd ((B7 18)) cs8 0)) 19 (upd ((B7 19)) cs8 (nI hd))) 26) ((updA (updA (updA (updA B7 16 (upd ((B7 16)) cs8 25)) 17 (upd ((B7 17)) cs8 0)) 18 (upd ((B7 18)) cs8 0)) 19 (upd ((B7 19)) cs8 (nI hd))) 27) nd vr hd c0 sl := hen50
      have hz96 : StW pb.1 pb.2.1 pb.2.2.1 pb.2.2.2 Ag Ag80 Q9 Q9 pd pd m9 dp lw cs (cs8 + 1) as9 ((-1) : Int32) hd hd sl sl gr gr ((updA (updA (updA (updA B7 16 (upd ((B7 16)) cs8 25)) 17 (upd ((B7 17)) cs8 0)) 18 (upd ((B7 18)) cs8 0)) 19 (upd ((B7 19)) cs8 (nI hd))) 16) ((updA (updA (updA (updA B7 16 (upd ((B7 16)) cs8 25)) 17 (upd ((B7 17)) cs8 0)) 18 (upd ((B7 18)) cs8 0)) 19 (upd ((B7 19)) cs8 (nI hd))) 17) ((updA (updA (updA (updA B7 16 (upd ((B7 16)) cs8 25)) 17 (upd ((B7 17)) cs8 0)) 18 (upd ((B7 18)) cs8 0)) 19 (upd ((B7 19)) cs8 (nI hd))) 18) ((updA (updA (updA (updA B7 16 (upd ((B7 16)) cs8 25)) 17 (upd ((B7 17)) cs8 0)) 18 (upd ((B7 18)) cs8 0)) 19 (upd ((B7 19)) cs8 (nI hd))) 19) [] := hst81
      have hz97 : hd = hd := rfl
      have hO : OKP G h0 a (upd (upd (upd (upd (upd (upd (upd (upd (upd (upd F 2 (nI sz)) 5 (nI (cs8 + 1))) 6 (nI rg)) 7 (nI hd)) 8 (nI dp)) 12 (nI vr)) 13 ((-1) : Int32)) 14 wt11) 15 wf12) 16 ls9) (updR (updR (updR R 2 (.ref pq)) 3 (.ref mq)) 4 (va_rf lp9)) Z (updA (updA (updA (updA B7 16 (upd ((B7 16)) cs8 25)) 17 (upd ((B7 17)) cs8 0)) 18 (upd ((B7 18)) cs8 0)) 19 (upd ((B7 19)) cs8 (nI hd))) J K6 w := hO.to rfl
      refine W.widen (k := 1) (n := 6) (by omega) (by omega) ?_
      have hzz1 : H.size ≤ s.heap.size + (0) := (by have z : 0 ≤ 0 := (by omega); omega)
      have hzz2 : hSl H ≤ hSl s.heap + (0) := (by have z : 0 ≤ 0 := (by omega); omega)
      exact W.vret hx hb hr (fun t99 ht99 hW99 => ⟨⟨_, (w, (K6, (updA (updA (updA (updA B7 16 (upd ((B7 16)) cs8 25)) 17 (upd ((B7 17)) cs8 0)) 18 (upd ((B7 18)) cs8 0)) 19 (upd ((B7 19)) cs8 (nI hd))), (cs8 + 1), ((-1) : Int32), wt11, wf12, vr, hd, dp, Ag80, sl)), rfl, ⟨rfl, hz83, hz84, hz85, hz86, hz87, hz88, hz89, hz90, hz91, hz92, hz93, hz94, hz95, hz96, hz97, hO⟩, by rw [ht99]; exact hP, hD, by rw [ht99]; exact hzz1, by rw [ht99]; exact hzz2⟩, hS.F ht99⟩) hS.2.2 dX0_throwStatement_59
    · refine lv_aload_n hx hb dX0_throwStatement_27 rfl (lv_at hl 1 rfl) ?_
      refine c_get (v := .ref (a 1)) (C := RX0) (Tc := TX0) (N := 13) (ci := 0) hx hb hq pin_wsX00 hown hE hP hO 24 (sg_24 G h0 a _ _ _ _ _) rfl 0 (by decide) (hq _ pw_4) (fun _ h9 => h9) rfl dX0_throwStatement_28 ?_
      refine lv_bipush (v := 11) hx hb dX0_throwStatement_31 (by decide) ?_
      refine lv_aload_n hx hb dX0_throwStatement_33 rfl (lv_at hl 2 rfl) ?_
      refine p_get (v := .ref q1) (C := RX7) (Tc := TX7) (N := 11) (ci := 13) hx hb hq pin_wsX70 hown hE hP hO (by rw [hf35]; decide) (rep_1 hf35) rfl 6 (by decide) (hq _ pw_180) (fun _ h9 => h9) (congrArg (fun z => some (va_rf z)) hf38) dX0_throwStatement_34 ?_
      refine p_get (v := .int (K6.2.1 2 q1)) (C := RX7) (Tc := TX7) (N := 11) (ci := 13) hx hb hq pin_wsX70 hown hE hP hO (by rw [hf39]; decide) (rep_1 hf39) rfl 2 (by decide) (hq _ pw_82) (fun _ h9 => h9) rfl dX0_throwStatement_37 ?_
      have hO : OKW G h0 a (upd (upd (upd (upd (upd (upd (upd (upd (upd (upd (upd (upd (upd F 2 (nI sz)) 5 (nI cs)) 6 (nI rg)) 7 (nI hd)) 8 (nI dp)) 12 (nI vr)) 13 as9) 16 ls9) 5 (nI cs8)) 13 as10) 14 wt11) 15 wf12) 2 (nI sz)) (updR (updR (updR R 2 (.ref pq)) 3 (.ref mq)) 4 (va_rf lp9)) Z B7 J K6.1 (fun q99 x99 => x99 = rep G a K6 q99) w := hO.to rfl
      obtain ⟨_, qr101, hqr102⟩ := hO.2.1 2 _ (sg_2 G h0 a _ _ _ _ _)
      refine pn_V0 (G := G) (As := [.int 11, .int (K6.2.1 2 q1)]) (rest := []) hx hb hml hown hq hE hX pX0_al hP hD hS hA hl.1 (K_fail l G h0 a (upd (upd (upd (upd (upd (upd (upd (upd (upd (upd (upd (upd F 2 (nI sz)) 5 (nI cs)) 6 (nI rg)) 7 (nI hd)) 8 (nI dp)) 12 (nI vr)) 13 as9) 16 ls9) 5 (nI cs8)) 13 as10) 14 wt11) 15 wf12) (updR (updR (updR R 2 (.ref pq)) 3 (.ref mq)) 4 (va_rf lp9)) Z B7 J K6.1 (fun q99 x99 => x99 = rep G a K6 q99) w 11 (K6.2.1 2 q1) sz (by omega) hO hl0) (gV pw_64 pw_65 pw_66 pw_59 pw_43) hV_X10_fail qr101 7 hqr102 rfl rfl rfl (Nat.le_of_ble_eq_true rfl) dX0_throwStatement_40 ⟨(by show 0 + 1 ≤ 1; omega), (by show 0 + 6 ≤ 6; omega)⟩ ⟨(by show 6 + 1 ≤ (5 * n + 33); omega), (by show 8 + (3 + 11) + 100 ≤ (200 * n + 560); omega)⟩ (fun v100 u98 H locs hw99 hP hD hS => hw99.elim) (fun ux ce9 q9 H9 locs9 hux hP9 hD9 hS9 hce hcv hcl => pb_out ux (ThQ.up (Thx.same (Thx.f (Thx.f (Thx.f (Thx.f (Bth.thx hbb41) (by omega)) (by omega)) (by omega)) (by omega)) rfl) RhX.rfl hux) hnt hlocks hce hcv hcl hP9 hD9 hS9 (by show 0 + 1 ≤ 1; omega) (by show 0 + 6 ≤ 6; omega))
set_option maxHeartbeats 24000000 in
set_option maxRecDepth 100000 in
theorem Y_return (l : Launch) (G : pT) (h0 : Nat) (a : Nat → Nat) (F : Nat → Int32) (R : Nat → Value) (Z : Int64) (B : Nat → Nat → Int32) (J : Nat → Nat → Int64) (K : PK) (w : va_W) (pq : Nat) (dr : Nat) (ml : Nat) (nd : Nat) (nm : Nat) (cp : Nat) (it : Nat → Nat) (s9 : Nat) (q : Nat) (mq : Nat) (cs : Nat) (vr : Nat) (sz : Nat) (n : Nat) (hd : Nat) (dp : Nat) (rg : Nat) (ls9 : Int32) (lp9 : Option Nat) (g : Nat → Nat → Nat) (rk : Nat → Nat) (pb : PNb) (Ag : Nat → AS) (Q9 : RX) (pd : Nat → Prop) (sl : Nat → Nat) (m9 : Nat) (lw : Nat) (c0 : Nat) (rt : Nat) (gr : Nat) (as9 : Int32) (hsz : sz ≤ 5000) (hwp : WPr G K g) (hps : PgT G K g (a 1) pq dr ml nd nm cp it s9) (hrk : RkO K rk) (hcs : cs ≤ 10000) (hvr : vr ≤ 30) (hng : Nng (B 18)) (hmq : K.1 mq = 3) (hqT : K.1 q = 1) (hqL : 1 ≤ g 0 q ∧ g 0 q ≤ n) (hrt : K.2.1 10 mq = nI rt) (hrv : TyV nd rt ∧ (bX pb).2.2.2.2.1 m9 = rt) (hdp : dp ≤ 71) (hrg : rg ≤ 625) (hhd : hd ≤ 41 + vr) (hlo : LpO K lp9) (hek : EkA pb K g (B 7) (B 11) sz) (hcO : OwC K dr mq c0) (hna : NaB pb G K (B 11) dr nd sz) (hen : EnV (B 26) (B 27) nd vr hd c0 sl) (hao : AsO as9) (hem : EmB pb B Ag pd m9 dp lw cs as9 hd sl []) (hrm : cs + 2 * tlE g q ≤ 9999) (hca : ∀ x : Nat, K.2.2.1 0 q = some x → K.1 x = 1 ∧ (1 ≤ g 0 x ∧ g 0 x + 1 ≤ n) ∧ (1 ≤ tlE g x ∧ 1 ≤ ndE g x) ∧ ndE g x ≤ 243 ∧ tlE g x + 2 ≤ tlE g q) (htq : 2 ≤ tlE g q) (hO : OKP G h0 a (upd (upd (upd (upd (upd (upd (upd (upd F 2 (nI sz)) 5 (nI cs)) 6 (nI rg)) 7 (nI hd)) 8 (nI dp)) 12 (nI vr)) 13 as9) 16 ls9) (updR (updR (updR R 2 (.ref pq)) 3 (.ref mq)) 4 (va_rf lp9)) Z B J K w) (hl0 : l.stackTraces = false) : PBn l G pX0 yX0_returnStatement cX0_returnStatement 2 none ({ frames := (5 * n + 33), cells := 1, slots := 6, locals := (200 * n + 560) }) [.ref (a 4), .ref q] w (fun (v : Option Value) (u : va_W × (PK × (Nat → Nat → Int32) × Nat × Int32 × Int32 × Int32 × Nat × Nat × Nat × (Nat → AS) × (Nat → Nat))) => v = none ∧ (SmW B u.2.2.1 cs) ∧ (BdE K u.2.1) ∧ (BeF K u.2.1) ∧ (BeL K u.2.1 none) ∧ (Bth B u.2.2.1) ∧ (BsR B u.2.2.1) ∧ (cs ≤ u.2.2.2.1 ∧ u.2.2.2.1 + 1 ≤ cs + 2 * tlE g q) ∧ (dp ≤ u.2.2.2.2.2.2.2.2.2.1 ∧ u.2.2.2.2.2.2.2.2.2.1 ≤ 71) ∧ (vr ≤ u.2.2.2.2.2.2.2.1 ∧ u.2.2.2.2.2.2.2.1 ≤ 30 ∧ u.2.2.2.2.2.2.2.2.1 + vr = hd + u.2.2.2.2.2.2.2.1) ∧ (AsO u.2.2.2.2.1) ∧ (VrS B u.2.2.1 vr) ∧ (cs < u.2.2.2.1) ∧ (EnV (u.2.2.1 26) (u.2.2.1 27) nd u.2.2.2.2.2.2.2.1 u.2.2.2.2.2.2.2.2.1 c0 u.2.2.2.2.2.2.2.2.2.2.2) ∧ (StW pb.1 pb.2.1 pb.2.2.1 pb.2.2.2 Ag u.2.2.2.2.2.2.2.2.2.2.1 Q9 Q9 pd pd m9 u.2.2.2.2.2.2.2.2.2.1 lw cs u.2.2.2.1 as9 u.2.2.2.2.1 hd u.2.2.2.2.2.2.2.2.1 sl u.2.2.2.2.2.2.2.2.2.2.2 gr gr (u.2.2.1 16) (u.2.2.1 17) (u.2.2.1 18) (u.2.2.1 19) []) ∧ (u.2.2.2.2.2.2.2.2.1 = hd) ∧ (OKP G h0 a (upd (upd (upd (upd (upd (upd (upd (upd (upd (upd F 2 (nI sz)) 5 (nI u.2.2.2.1)) 6 (nI rg)) 7 (nI u.2.2.2.2.2.2.2.2.1)) 8 (nI u.2.2.2.2.2.2.2.2.2.1)) 12 (nI u.2.2.2.2.2.2.2.1)) 13 u.2.2.2.2.1) 14 u.2.2.2.2.2.1) 15 u.2.2.2.2.2.2.1) 16 ls9) (updR (updR (updR R 2 (.ref pq)) 3 (.ref mq)) 4 (va_rf lp9)) Z u.2.2.1 J u.2.1 u.1)) (fun u => u.1) (fun (u : va_W × (PK × (Nat → Nat → Int32) × Nat × Int32 × Int32 × Int32 × Nat × Nat × Nat × (Nat → AS) × (Nat → Nat))) => 0) (fun (u : va_W × (PK × (Nat → Nat → Int32) × Nat × Int32 × Int32 × Int32 × Nat × Nat × Nat × (Nat → AS) × (Nat → Nat))) => 0) (fun (u : va_W × (Nat → Int32) × (Nat → Value) × (Nat → Nat → Int32)) => ThQ G h0 a (upd (upd (upd (upd (upd (upd (upd (upd F 2 (nI sz)) 5 (nI cs)) 6 (nI rg)) 7 (nI hd)) 8 (nI dp)) 12 (nI vr)) 13 as9) 16 ls9) (updR (updR (updR R 2 (.ref pq)) 3 (.ref mq)) 4 (va_rf lp9)) Z B J u) (fun u => u.1) := by
  intro sz
  refine vx_ofW (cc := cX0_returnStatement) (maxL := 2) (ret := none) (by decide) rfl ?_
  intro p e s m args below meth c s₁ B9 hml hnt hv
  obtain ⟨rfl, hsz, hP, hD0, hE, hX⟩ := hv
  have hx := B9.exec
  have hb := B9.bytes
  have hr := B9.returns
  have hts := atoms_spec (ws := Cond.code yX0_returnStatement cX0_returnStatement 2 none :: pw) B9.pre
  have hq : ∀ w ∈ pw, w.before _ s = true := fun w h => hts w (List.mem_cons_of_mem _ h)
  have hown : s.vm.findClass RX0 = some m.cls := findClass_of_methodNamed B9.named
  have hlocks := B9.notSynchronized
  subst hsz
  have hD := hD0.self (sz := s.heap.size)
  have hA : ∀ q : Nat, s.heap.size ≤ q → va_A w s.heap.size q := fun q h => Or.inr h
  generalize va_A w s.heap.size = A at hD hE hA ⊢
  have hS : va_S A s.heap s.heap [] := va_S.rf
  have hl := lv_entry ([.ref (a 4), .ref q]) (n := 2) (Nat.le_of_ble_eq_true rfl)
  rw [lg_entry_eq]
  generalize (lg_sl ([.ref (a 4), .ref q]) ++ List.replicate (2 - (lg_sl ([.ref (a 4), .ref q])).length) Slot.unset).toArray = ls at hl ⊢
  have hl : lv_has ls 2 [(0, .ref (a 4)), (1, .ref q)] := hl
  have hpg := hps.1
  have hp1 := hpg.1
  have hp2 := hpg.2.1
  have hp3 := hpg.2.2.1
  have hp4 := hpg.2.2.2.1
  have hp5 := hpg.2.2.2.2.1
  have hp6 := hpg.2.2.2.2.2.1
  have hp8 := hpg.2.2.2.2.2.2.2.1
  have hp9 := hpg.2.2.2.2.2.2.2.2
  have hdr0 : ¬ K.1 dr = 0 := by rw [hp4]; decide
  have hrl := hrv.1.lt hna.1.1
  have hst0 : StW pb.1 pb.2.1 pb.2.2.1 pb.2.2.2 Ag Ag Q9 Q9 pd pd m9 dp lw cs cs as9 as9 hd hd sl sl gr gr (B 16) (B 17) (B 18) (B 19) ([] : List Nat) := StW.nil hem
  refine lv_aload_n hx hb dX0_returnStatement_0 rfl (lv_at hl 1 rfl) ?_
  rcases ho2 : K.2.2.1 0 q with _ | o1
  · skip
    refine p_get (v := .null) (C := RX7) (Tc := TX7) (N := 11) (ci := 13) hx hb hq pin_wsX70 hown hE hP hO (by rw [hqT]; decide) (rep_1 hqT) rfl 6 (by decide) (hq _ pw_180) (fun _ h9 => h9) (congrArg (fun z => some (va_rf z)) ho2) dX0_returnStatement_1 ?_
    refine lv_ifnullN (tgt := 33) hx hb dX0_returnStatement_4 (by decide) ?_
    refine lv_aload_n hx hb dX0_returnStatement_33 rfl (lv_at hl 0 rfl) ?_
    refine c_get (v := .ref mq) (C := RX0) (Tc := TX0) (N := 13) (ci := 0) hx hb hq pin_wsX00 hown hE hP hO 24 (sg_24 G h0 a _ _ _ _ _) rfl 7 (by decide) (hq _ pw_72) (fun _ h9 => h9) rfl dX0_returnStatement_34 ?_
    refine p_get (v := .int (nI rt)) (C := RX6) (Tc := TX6) (N := 12) (ci := 12) hx hb hq pin_wsX60 hown hE hP hO (by rw [hmq]; decide) (rep_3 hmq) rfl 7 (by decide) (hq _ pw_172) (fun _ h9 => h9) (congrArg (fun z => some (Value.int z)) hrt) dX0_returnStatement_37 ?_
    refine lv_bipush (v := 63) hx hb dX0_returnStatement_40 (by decide) ?_
    refine lv_icmp_eq (tgt := 58) hx hb dX0_returnStatement_42 (by decide) (fun c3 => ?_) (fun c3 => ?_)
    · have n4 : rt = 63 := (nI_eq (a := rt) (b := 63) (by omega) (by omega)).mp c3
      refine lv_aload_n hx hb dX0_returnStatement_58 rfl (lv_at hl 0 rfl) ?_
      refine c_get (v := .ref (a 2)) (C := RX0) (Tc := TX0) (N := 13) (ci := 0) hx hb hq pin_wsX00 hown hE hP hO 24 (sg_24 G h0 a _ _ _ _ _) rfl 1 (by decide) (hq _ pw_5) (fun _ h9 => h9) rfl dX0_returnStatement_59 ?_
      refine lv_aload_n hx hb dX0_returnStatement_62 rfl (lv_at hl 1 rfl) ?_
      refine p_get (v := .null) (C := RX7) (Tc := TX7) (N := 11) (ci := 13) hx hb hq pin_wsX70 hown hE hP hO (by rw [hqT]; decide) (rep_1 hqT) rfl 6 (by decide) (hq _ pw_180) (fun _ h9 => h9) (congrArg (fun z => some (va_rf z)) ho2) dX0_returnStatement_63 ?_
      refine lv_ifnonnullN hx hb dX0_returnStatement_66 ?_
      refine lv_bipush (v := 26) hx hb dX0_returnStatement_69 (by decide) ?_
      refine lv_goto (tgt := 76) hx hb dX0_returnStatement_71 (by decide) ?_
      refine lv_iconst (v := 0) hx hb dX0_returnStatement_76 (by decide) ?_
      refine lv_iconst (v := 0) hx hb dX0_returnStatement_77 (by decide) ?_
      have hO : OKW G h0 a (upd (upd (upd (upd (upd (upd (upd (upd (upd (upd F 2 (nI sz)) 5 (nI cs)) 6 (nI rg)) 7 (nI hd)) 8 (nI dp)) 12 (nI vr)) 13 as9) 16 ls9) 5 (nI cs)) 7 (nI hd)) (updR (updR (updR R 2 (.ref pq)) 3 (.ref mq)) 4 (va_rf lp9)) Z B J K.1 (fun q99 x99 => x99 = rep G a K q99) w := hO.to rfl
      obtain ⟨_, qr8, hqr9⟩ := hO.2.1 13 _ (sg_13 G h0 a _ _ _ _ _)
      refine pc_V0 (G := G) (As := [.int 26, .int 0, .int 0]) (rest := []) hx hb hml hown hq hE hX pX0_al hP hD hS hA hl.1 (Y_emit l G h0 a (upd (upd (upd (upd (upd (upd (upd (upd F 2 (nI sz)) 5 (nI cs)) 6 (nI rg)) 7 (nI hd)) 8 (nI dp)) 12 (nI vr)) 13 as9) 16 ls9) (updR (updR (updR R 2 (.ref pq)) 3 (.ref mq)) 4 (va_rf lp9)) Z B J K.1 (fun q99 x99 => x99 = rep G a K q99) w 26 0 0 cs hd (by omega) hO) (gV pw_129 pw_130 pw_131 pw_70 pw_115) hV_X1_emit qr8 1 hqr9 rfl rfl rfl (Nat.le_of_ble_eq_true rfl) dX0_returnStatement_78 ⟨(by show 0 + 0 ≤ 1; omega), (by show 0 + 0 ≤ 6; omega)⟩ ⟨(by show 2 + 1 ≤ (5 * n + 33); omega), (by show 8 + (4 + 11) + 60 ≤ (200 * n + 560); omega)⟩ (fun v7 u5 H locs hw6 hP hD hS => ?_)
      obtain ⟨w, _⟩ := u5
      obtain ⟨hw6, hO⟩ := hw6
      obtain rfl : v7 = none := hw6
      have hO : OKP G h0 a (upd (upd (upd (upd (upd (upd (upd (upd F 2 (nI sz)) 5 (nI (cs + 1))) 6 (nI rg)) 7 (nI hd)) 8 (nI dp)) 12 (nI vr)) 13 as9) 16 ls9) (updR (updR (updR R 2 (.ref pq)) 3 (.ref mq)) 4 (va_rf lp9)) Z (updA (updA (updA (updA B 16 (upd ((B 16)) cs 26)) 17 (upd ((B 17)) cs 0)) 18 (upd ((B 18)) cs 0)) 19 (upd ((B 19)) cs (nI hd))) J K w := hO.to rfl
      refine W.widen (k := 0) (n := 0) (Nat.le_of_ble_eq_true rfl) (Nat.le_of_ble_eq_true rfl) ?_
      refine W.eq (g2 := F0 m 81 ls []) rfl ?_
      have hsw10 : ∀ x9 : Nat, x9 < cs → (upd ((B 16)) cs 26) x9 = B 16 x9 := fun x9 hx9 => (if_neg (by omega)).trans ((fun _ _ => rfl) x9 hx9)
      have hsw11 : ∀ x9 : Nat, x9 < cs → (upd ((B 17)) cs 0) x9 = B 17 x9 := fun x9 hx9 => (if_neg (by omega)).trans ((fun _ _ => rfl) x9 hx9)
      have hsw12 : ∀ x9 : Nat, x9 < cs → (upd ((B 18)) cs 0) x9 = B 18 x9 := fun x9 hx9 => (if_neg (by omega)).trans ((fun _ _ => rfl) x9 hx9)
      have hsw13 : ∀ x9 : Nat, x9 < cs → (upd ((B 19)) cs (nI hd)) x9 = B 19 x9 := fun x9 hx9 => (if_neg (by omega)).trans ((fun _ _ => rfl) x9 hx9)
      obtain ⟨Ag14, hst15⟩ : ∃ A5 : Nat → AS, StW pb.1 pb.2.1 pb.2.2.1 pb.2.2.2 Ag A5 Q9 Q9 pd pd m9 dp lw cs (cs + 1) as9 (-1) hd hd sl sl gr gr (upd ((B 16)) cs 26) (upd ((B 17)) cs 0) (upd ((B 18)) cs 0) (upd ((B 19)) cs (nI hd)) ([] : List Nat) := ⟨(upS Ag (cs + 1) (rcA (-1), hd, sl, ([] : List Nat))), StW.ret hst0 (by rw [hrv.2]; omega)⟩
      have hng16 : Nng (upd ((B 18)) cs 0) := Nng.set hng (k := 0) (by omega)
      refine lv_aload_n hx hb dX0_returnStatement_81 rfl (lv_at hl 0 rfl) ?_
      refine lv_iconst (v := (-1)) hx hb dX0_returnStatement_82 (by decide) ?_
      refine c_put (v := .int (-1)) (ty := .int) (C := RX0) (Tc := TX0) (N := 13) (ci := 0) hx hb hq pin_wsX00 tyX0 tyX0_ok nmX0 hown hE hP hD hS hO 24 (sg_24 G h0 a _ _ _ _ _) rfl 8 (by decide) (hq _ pw_55) (fun _ h9 => h9) rfl (by decide +kernel) rfl rfl (Nat.le_of_ble_eq_true rfl) (sf_13 G h0 a _ _ _ _ _ (-1)) dX0_returnStatement_83 (fun H locs w hP hD hS hO => ?_)
      refine W_size (fun hz1 hz2 => ?_)
      refine vx_ret ?_
      have hz17 : SmW B (updA (updA (updA (updA B 16 (upd ((B 16)) cs 26)) 17 (upd ((B 17)) cs 0)) 18 (upd ((B 18)) cs 0)) 19 (upd ((B 19)) cs (nI hd))) cs := (fun x9 hx9 => ⟨hsw10 x9 hx9, hsw11 x9 hx9, hsw12 x9 hx9, hsw13 x9 hx9⟩)
      have hz18 : BdE K K := BdE.rfl
      have hz19 : BeF K K := BeF.rfl
      have hz20 : BeL K K none := BeL.rfl
      have hz21 : Bth B (updA (updA (updA (updA B 16 (upd ((B 16)) cs 26)) 17 (upd ((B 17)) cs 0)) 18 (upd ((B 18)) cs 0)) 19 (upd ((B 19)) cs (nI hd))) := (show Thx (upd (upd (upd (upd (upd (upd (upd (upd F 2 (nI sz)) 5 (nI cs)) 6 (nI rg)) 7 (nI hd)) 8 (nI dp)) 12 (nI vr)) 13 as9) 16 ls9) (upd (upd (upd (upd (upd (upd (upd (upd (upd (upd F 2 (nI sz)) 5 (nI cs)) 6 (nI rg)) 7 (nI hd)) 8 (nI dp)) 12 (nI vr)) 13 as9) 16 ls9) 5 (nI (cs + 1))) 13 (-1)) B (updA (updA (updA (updA B 16 (upd ((B 16)) cs 26)) 17 (upd ((B 17)) cs 0)) 18 (upd ((B 18)) cs 0)) 19 (upd ((B 19)) cs (nI hd))) from (Thx.b (Thx.b8 (Thx.b (Thx.b (Thx.f (Thx.f Thx.rfl (by omega)) (by omega)) (by omega) (by decide)) (by omega) (by decide)) hng16) (by omega) (by decide))).2
      have hz22 : BsR B (updA (updA (updA (updA B 16 (upd ((B 16)) cs 26)) 17 (upd ((B 17)) cs 0)) 18 (upd ((B 18)) cs 0)) 19 (upd ((B 19)) cs (nI hd))) := (BsR.up (BsR.up (BsR.up (BsR.up BsR.rfl (by omega)) (by omega)) (by omega)) (by omega))
      have hz23 : cs ≤ (cs + 1) ∧ (cs + 1) + 1 ≤ cs + 2 * tlE g q := (by omega)
      have hz24 : dp ≤ dp ∧ dp ≤ 71 := (by omega)
      have hz25 : vr ≤ vr ∧ vr ≤ 30 ∧ hd + vr = hd + vr := (by omega)
      have hz26 : AsO ((-1) : Int32) := AsO.m1
      have hz27 : VrS B (updA (updA (updA (updA B 16 (upd ((B 16)) cs 26)) 17 (upd ((B 17)) cs 0)) 18 (upd ((B 18)) cs 0)) 19 (upd ((B 19)) cs (nI hd))) vr := VrS.rfl
      have hz28 : cs < (cs + 1) := (by omega)
      have hz29 : EnV ((updA (updA (updA (updA B 16 (upd ((B 16)) cs 26)) 17 (upd ((B 17)) cs 0)) 18 (upd ((B 18)) cs 0)) 19 (upd ((B 19)) cs (nI hd))) 26) ((updA (updA (updA (updA B 16 (upd ((B 16)) cs 26)) 17 (upd ((B 17)) cs 0)) 18 (upd ((B 18)) cs 0)) 19 (upd ((B 19)) cs (nI hd))) 27) nd vr hd c0 sl := hen
      have hz30 : StW pb.1 pb.2.1 pb.2.2.1 pb.2.2.2 Ag Ag14 Q9 Q9 pd pd m9 dp lw cs (cs + 1) as9 ((-1) : Int32) hd hd sl sl gr gr ((updA (updA (updA (updA B 16 (upd ((B 16)) cs 26)) 17 (upd ((B 17)) cs 0)) 18 (upd ((B 18)) cs 0)) 19 (upd ((B 19)) cs (nI hd))) 16) ((updA (updA (updA (updA B 16 (upd ((B 16)) cs 26)) 17 (upd ((B 17)) cs 0)) 18 (upd ((B 18)) cs 0)) 19 (upd ((B 19)) cs (nI hd))) 17) ((updA (updA (updA (updA B 16 (upd ((B 16)) cs 26)) 17 (upd ((B 17)) cs 0)) 18 (upd ((B 18)) cs 0)) 19 (upd ((B 19)) cs (nI hd))) 18) ((updA (updA (updA (updA B 16 (upd ((B 16)) cs 26)) 17 (upd ((B 17)) cs 0)) 18 (upd ((B 18)) cs 0)) 19 (upd ((B 19)) cs (nI hd))) 19) [] := hst15
      have hz31 : hd = hd := rfl
      have hO : OKP G h0 a (upd (upd (upd (upd (upd (upd (upd (upd (upd (upd F 2 (nI sz)) 5 (nI (cs + 1))) 6 (nI rg)) 7 (nI hd)) 8 (nI dp)) 12 (nI vr)) 13 ((-1) : Int32)) 14 (F 14)) 15 (F 15)) 16 ls9) (updR (updR (updR R 2 (.ref pq)) 3 (.ref mq)) 4 (va_rf lp9)) Z (updA (updA (updA (updA B 16 (upd ((B 16)) cs 26)) 17 (upd ((B 17)) cs 0)) 18 (upd ((B 18)) cs 0)) 19 (upd ((B 19)) cs (nI hd))) J K w := hO.to rfl
      refine W.widen (k := 1) (n := 6) (by omega) (by omega) ?_
      have hzz1 : H.size ≤ s.heap.size + (0) := (by have z : 0 ≤ 0 := (by omega); omega)
      have hzz2 : hSl H ≤ hSl s.heap + (0) := (by have z : 0 ≤ 0 := (by omega); omega)
      exact W.vret hx hb hr (fun t99 ht99 hW99 => ⟨⟨_, (w, (K, (updA (updA (updA (updA B 16 (upd ((B 16)) cs 26)) 17 (upd ((B 17)) cs 0)) 18 (upd ((B 18)) cs 0)) 19 (upd ((B 19)) cs (nI hd))), (cs + 1), ((-1) : Int32), (F 14), (F 15), vr, hd, dp, Ag14, sl)), rfl, ⟨rfl, hz17, hz18, hz19, hz20, hz21, hz22, hz23, hz24, hz25, hz26, hz27, hz28, hz29, hz30, hz31, hO⟩, by rw [ht99]; exact hP, hD, by rw [ht99]; exact hzz1, by rw [ht99]; exact hzz2⟩, hS.F ht99⟩) hS.2.2 dX0_returnStatement_86
    · have n32 : ¬ (rt = 63) := fun h9 => c3 ((nI_eq (a := rt) (b := 63) (by omega) (by omega)).mpr h9)
      refine lv_aload_n hx hb dX0_returnStatement_45 rfl (lv_at hl 0 rfl) ?_
      refine c_get (v := .ref (a 1)) (C := RX0) (Tc := TX0) (N := 13) (ci := 0) hx hb hq pin_wsX00 hown hE hP hO 24 (sg_24 G h0 a _ _ _ _ _) rfl 0 (by decide) (hq _ pw_4) (fun _ h9 => h9) rfl dX0_returnStatement_46 ?_
      refine lv_bipush (v := 11) hx hb dX0_returnStatement_49 (by decide) ?_
      refine lv_aload_n hx hb dX0_returnStatement_51 rfl (lv_at hl 1 rfl) ?_
      refine p_get (v := .int (K.2.1 1 q)) (C := RX7) (Tc := TX7) (N := 11) (ci := 13) hx hb hq pin_wsX70 hown hE hP hO (by rw [hqT]; decide) (rep_1 hqT) rfl 1 (by decide) (hq _ pw_81) (fun _ h9 => h9) rfl dX0_returnStatement_52 ?_
      have hO : OKW G h0 a (upd (upd (upd (upd (upd (upd (upd (upd (upd F 2 (nI sz)) 5 (nI cs)) 6 (nI rg)) 7 (nI hd)) 8 (nI dp)) 12 (nI vr)) 13 as9) 16 ls9) 2 (nI sz)) (updR (updR (updR R 2 (.ref pq)) 3 (.ref mq)) 4 (va_rf lp9)) Z B J K.1 (fun q99 x99 => x99 = rep G a K q99) w := hO.to rfl
      obtain ⟨_, qr36, hqr37⟩ := hO.2.1 2 _ (sg_2 G h0 a _ _ _ _ _)
      refine pn_V0 (G := G) (As := [.int 11, .int (K.2.1 1 q)]) (rest := []) hx hb hml hown hq hE hX pX0_al hP hD hS hA hl.1 (K_fail l G h0 a (upd (upd (upd (upd (upd (upd (upd (upd F 2 (nI sz)) 5 (nI cs)) 6 (nI rg)) 7 (nI hd)) 8 (nI dp)) 12 (nI vr)) 13 as9) 16 ls9) (updR (updR (updR R 2 (.ref pq)) 3 (.ref mq)) 4 (va_rf lp9)) Z B J K.1 (fun q99 x99 => x99 = rep G a K q99) w 11 (K.2.1 1 q) sz (by omega) hO hl0) (gV pw_64 pw_65 pw_66 pw_59 pw_43) hV_X10_fail qr36 7 hqr37 rfl rfl rfl (Nat.le_of_ble_eq_true rfl) dX0_returnStatement_55 ⟨(by show 0 + 1 ≤ 1; omega), (by show 0 + 6 ≤ 6; omega)⟩ ⟨(by show 6 + 1 ≤ (5 * n + 33); omega), (by show 8 + (3 + 11) + 100 ≤ (200 * n + 560); omega)⟩ (fun v35 u33 H locs hw34 hP hD hS => hw34.elim) (fun ux ce9 q9 H9 locs9 hux hP9 hD9 hS9 hce hcv hcl => pb_out ux (ThQ.up (Thx.same Thx.rfl rfl) RhX.rfl hux) hnt hlocks hce hcv hcl hP9 hD9 hS9 (by show 0 + 1 ≤ 1; omega) (by show 0 + 6 ≤ 6; omega))
  · obtain ⟨hcT, hcv, hcl, hcn, hct⟩ := hca o1 ho2
    refine p_get (v := .ref o1) (C := RX7) (Tc := TX7) (N := 11) (ci := 13) hx hb hq pin_wsX70 hown hE hP hO (by rw [hqT]; decide) (rep_1 hqT) rfl 6 (by decide) (hq _ pw_180) (fun _ h9 => h9) (congrArg (fun z => some (va_rf z)) ho2) dX0_returnStatement_1 ?_
    refine lv_ifnull hx hb dX0_returnStatement_4 ?_
    refine lv_aload_n hx hb dX0_returnStatement_7 rfl (lv_at hl 0 rfl) ?_
    refine lv_aload_n hx hb dX0_returnStatement_8 rfl (lv_at hl 1 rfl) ?_
    refine p_get (v := .ref o1) (C := RX7) (Tc := TX7) (N := 11) (ci := 13) hx hb hq pin_wsX70 hown hE hP hO (by rw [hqT]; decide) (rep_1 hqT) rfl 6 (by decide) (hq _ pw_180) (fun _ h9 => h9) (congrArg (fun z => some (va_rf z)) ho2) dX0_returnStatement_9 ?_
    refine lv_aload_n hx hb dX0_returnStatement_12 rfl (lv_at hl 0 rfl) ?_
    refine lv_aload_n hx hb dX0_returnStatement_13 rfl (lv_at hl 1 rfl) ?_
    refine p_get (v := .ref o1) (C := RX7) (Tc := TX7) (N := 11) (ci := 13) hx hb hq pin_wsX70 hown hE hP hO (by rw [hqT]; decide) (rep_1 hqT) rfl 6 (by decide) (hq _ pw_180) (fun _ h9 => h9) (congrArg (fun z => some (va_rf z)) ho2) dX0_returnStatement_14 ?_
    have hO : OKP G h0 a (upd (upd (upd (upd (upd (upd (upd (upd (upd (upd (upd (upd (upd F 2 (nI sz)) 5 (nI cs)) 6 (nI rg)) 7 (nI hd)) 8 (nI dp)) 12 (nI vr)) 13 as9) 16 ls9) 2 (nI sz)) 5 (nI cs)) 7 (nI hd)) 12 (nI vr)) 13 as9) (updR (updR (updR (updR (updR R 2 (.ref pq)) 3 (.ref mq)) 4 (va_rf lp9)) 2 (.ref pq)) 3 (.ref mq)) Z B J K w := hO.to rfl
    obtain ⟨_, qr41, hqr42⟩ := hO.2.1 24 _ (sg_24 G h0 a _ _ _ _ _)
    refine pn_V0 (G := G) (As := [.ref o1]) (rest := [.ref o1, .ref (a 4)]) hx hb hml hown hq hE hX pX0_al hP hD hS hA hl.1 ((PY_all l G (n - 1)) h0 a (upd (upd (upd (upd (upd (upd (upd (upd F 2 (nI sz)) 5 (nI cs)) 6 (nI rg)) 7 (nI hd)) 8 (nI dp)) 12 (nI vr)) 13 as9) 16 ls9) (updR (updR (updR R 2 (.ref pq)) 3 (.ref mq)) 4 (va_rf lp9)) Z B J K w pq dr ml nd nm cp it s9 o1 mq cs vr sz g rk pb Ag pd sl ([] : List Nat) m9 dp lw hd c0 as9 True (by omega) (BdE.wp BdE.rfl hwp) (BdE.pt BdE.rfl hwp hps) (BdE.rko BdE.rfl hrk) (by omega) (by omega) hng hmq hcT ⟨hcv.1, (by have z9 := hcv; omega)⟩ (EkA.be BdE.rfl (BsR.rfl 7 (by decide) (by decide)) (BsR.rfl 11 (by decide) (by decide)) hek) (OwC.be BdE.rfl hmq hdr0 hcO) (NaB.be BdE.rfl BeF.rfl hwp hps.2.1 hdr0 (BsR.rfl 11 (by decide) (by decide)) hna) hen (fun _ => hst0.1) (by omega) (by show 0 + ndE g o1 ≤ 248; omega) hcl hO hl0) (gV pw_173 pw_174 pw_175 pw_63 pw_224) hV_X0_value qr41 0 hqr42 rfl rfl rfl (Nat.le_of_ble_eq_true rfl) dX0_returnStatement_17 ⟨(by show 0 + 1 ≤ 1; omega), (by show 0 + 6 ≤ 6; omega)⟩ ⟨(by show (5 * (n - 1) + 34) + 1 ≤ (5 * n + 33); omega), (by show 8 + (3 + 11) + (200 * (n - 1) + 600) ≤ (200 * n + 560); omega)⟩ (fun v40 u38 H locs hw39 hP hD hS => ?_) (fun ux ce9 q9 H9 locs9 hux hP9 hD9 hS9 hce hcv hcl => pb_out ux (ThQ.up (Thx.same (Thx.same (Thx.same (Thx.same (Thx.same Thx.rfl rfl) rfl) rfl) rfl) rfl) (show RhX (updR (updR (updR R 2 (.ref pq)) 3 (.ref mq)) 4 (va_rf lp9)) (updR (updR (updR (updR (updR R 2 (.ref pq)) 3 (.ref mq)) 4 (va_rf lp9)) 2 (.ref pq)) 3 (.ref mq)) from fun k9 hk9 => by unfold updR; simp only [show ¬ k9 = 1 by omega, show ¬ k9 = 2 by omega, show ¬ k9 = 3 by omega, show ¬ k9 = 4 by omega, if_false]) hux) hnt hlocks hce hcv hcl hP9 hD9 hS9 (by show 0 + 1 ≤ 1; omega) (by show 0 + 6 ≤ 6; omega))
    obtain ⟨w, K43, B44, cs45, as46, wt47, wf48, t49, Ag50, u51⟩ := u38
    obtain ⟨hw39, h52, h53, h54, h55, h56, h57, h58, h59, h60, h61, h62, h63, hO⟩ := hw39
    have h52 : SmW B B44 cs := h52
    have h53 : BdE K K43 := h53
    have h54 : BeF K K43 := h54
    have h55 : BeL K K43 none := h55
    have h56 : BeI K K43 g o1 := h56
    have h57 : Bth B B44 := h57
    have h58 : BeR B B44 := h58
    have h59 : t49 < 128 := h59
    have h60 : cs ≤ cs45 ∧ cs45 + 0 ≤ cs + 2 * tlE g o1 := h60
    have h61 : AsE as9 as46 ∧ AsE as9 wt47 ∧ AsE as9 wf48 := h61
    have h62 : True → VaQ pb B B44 Ag Ag50 pd m9 dp lw cs cs45 as9 as46 wt47 wf48 hd sl ([] : List Nat) t49 u51 (K.2.1 0 o1) := h62
    have h63 : CaK (K.2.1 0 o1) → cs45 + 2 ≤ cs + 2 * tlE g o1 := h63
    obtain rfl : v40 = some (.int (nI t49)) := hw39
    have hf64 : K43.1 pq = 7 := (BdE.T h53 hp1 (by decide))
    have hf65 : K43.2.2.1 18 pq = some (a 1) := (BdE.C h53 (by rw [hp1]; decide) 18).trans hp2
    have hf66 : K43.2.2.1 14 pq = some dr := (BdE.C h53 (by rw [hp1]; decide) 14).trans hp3
    have hf67 : K43.1 dr = 8 := (BdE.T h53 hp4 (by decide))
    have hf68 : K43.2.2.1 15 pq = some ml := (BdE.C h53 (by rw [hp1]; decide) 15).trans hp5
    have hf69 : K43.1 ml = 5 := (BdE.T h53 hp6 (by decide))
    have hf70 : K43.2.1 24 pq = (nI nd) := (BdE.I h53 (by rw [hp1]; decide) (by decide) (by decide)).trans hp8
    have hf71 : K43.1 q = 1 := (BdE.T h53 hqT (by decide))
    have hf72 : K43.1 mq = 3 := (BdE.T h53 hmq (by decide))
    have hf73 : K43.2.1 10 mq = (nI rt) := (BdE.I h53 (by rw [hmq]; decide) (by decide) (by decide)).trans hrt
    have hf74 : K43.2.2.1 0 q = some o1 := (BdE.C h53 (by rw [hqT]; decide) 0).trans ho2
    have hf75 : K43.1 o1 = 1 := (BdE.T h53 hcT (by decide))
    have hO : OKP G h0 a (upd (upd (upd (upd (upd (upd (upd (upd (upd (upd F 2 (nI sz)) 5 (nI cs45)) 6 (nI rg)) 7 (nI hd)) 8 (nI dp)) 12 (nI vr)) 13 as46) 14 wt47) 15 wf48) 16 ls9) (updR (updR (updR R 2 (.ref pq)) 3 (.ref mq)) 4 (va_rf lp9)) Z B44 J K43 w := hO.to rfl
    refine W.widen (k := 0) (n := 0) (by show 0 + 0 ≤ 0; omega) (by show 0 + 0 ≤ 0; omega) ?_
    refine W.eq (g2 := F0 m 20 ls [.int (nI t49), .ref o1, .ref (a 4)]) rfl ?_
    have hbe76 := BdE.trans BdE.rfl h53
    have hbb77 : Bth B B44 := Bth.trans (show Thx (upd (upd (upd (upd (upd (upd (upd (upd F 2 (nI sz)) 5 (nI cs)) 6 (nI rg)) 7 (nI hd)) 8 (nI dp)) 12 (nI vr)) 13 as9) 16 ls9) (upd (upd (upd (upd (upd (upd (upd (upd F 2 (nI sz)) 5 (nI cs)) 6 (nI rg)) 7 (nI hd)) 8 (nI dp)) 12 (nI vr)) 13 as9) 16 ls9) B B from Thx.rfl).2 h57
    have hng78 : Nng (B44 18) := h57.2 hng
    have hsw79 : ∀ x9 : Nat, x9 < cs → (B44 16) x9 = B 16 x9 := fun x9 hx9 => ((h52 x9 (by omega)).1).trans ((fun _ _ => rfl) x9 hx9)
    have hsw80 : ∀ x9 : Nat, x9 < cs → (B44 17) x9 = B 17 x9 := fun x9 hx9 => ((h52 x9 (by omega)).2.1).trans ((fun _ _ => rfl) x9 hx9)
    have hsw81 : ∀ x9 : Nat, x9 < cs → (B44 18) x9 = B 18 x9 := fun x9 hx9 => ((h52 x9 (by omega)).2.2.1).trans ((fun _ _ => rfl) x9 hx9)
    have hsw82 : ∀ x9 : Nat, x9 < cs → (B44 19) x9 = B 19 x9 := fun x9 hx9 => ((h52 x9 (by omega)).2.2.2).trans ((fun _ _ => rfl) x9 hx9)
    have hbf83 := BeF.trans BeF.rfl h54 BdE.rfl
    have hbl85 := BeL.trans BeL.rfl h55 BdE.rfl
    have hbr84 : BsR B B44 := BsR.trans BsR.rfl (BeR.bs h58)
    have hen86 : EnV (B44 26) (B44 27) nd vr hd c0 sl := EnV.of (h58 26 (by decide)) (h58 27 (by decide)) hen
    have hvs87 : VrS B B44 vr := fun i9 hi9 => ⟨(congrFun (h58 26 (by decide)) i9).trans (VrS.rfl i9 hi9).1, (congrFun (h58 27 (by decide)) i9).trans (VrS.rfl i9 hi9).2⟩
    have hao88 : AsO as46 ∧ AsO wt47 ∧ AsO wf48 := ⟨AsE.aso h61.1 hao, AsE.aso h61.2.1 hao, AsE.aso h61.2.2 hao⟩
    refine lv_aload_n hx hb dX0_returnStatement_20 rfl (lv_at hl 0 rfl) ?_
    refine c_get (v := .ref mq) (C := RX0) (Tc := TX0) (N := 13) (ci := 0) hx hb hq pin_wsX00 hown hE hP hO 24 (sg_24 G h0 a _ _ _ _ _) rfl 7 (by decide) (hq _ pw_72) (fun _ h9 => h9) rfl dX0_returnStatement_21 ?_
    refine p_get (v := .int (nI rt)) (C := RX6) (Tc := TX6) (N := 12) (ci := 12) hx hb hq pin_wsX60 hown hE hP hO (by rw [hf72]; decide) (rep_3 hf72) rfl 7 (by decide) (hq _ pw_172) (fun _ h9 => h9) (congrArg (fun z => some (Value.int z)) hf73) dX0_returnStatement_24 ?_
    have hO : OKP G h0 a (upd (upd (upd (upd (upd (upd (upd (upd (upd (upd (upd (upd (upd F 2 (nI sz)) 5 (nI cs)) 6 (nI rg)) 7 (nI hd)) 8 (nI dp)) 12 (nI vr)) 13 as9) 16 ls9) 5 (nI cs45)) 13 as46) 14 wt47) 15 wf48) 2 (nI sz)) (updR (updR (updR (updR R 2 (.ref pq)) 3 (.ref mq)) 4 (va_rf lp9)) 2 (.ref pq)) Z B44 J K43 w := hO.to rfl
    obtain ⟨_, qr92, hqr93⟩ := hO.2.1 24 _ (sg_24 G h0 a _ _ _ _ _)
    refine pn_V0 (G := G) (As := [.ref o1, .int (nI t49), .int (nI rt)]) (rest := []) hx hb hml hown hq hE hX pX0_al hP hD hS hA hl.1 (Y_fit l G h0 a (upd (upd (upd (upd (upd (upd (upd (upd (upd (upd (upd (upd F 2 (nI sz)) 5 (nI cs)) 6 (nI rg)) 7 (nI hd)) 8 (nI dp)) 12 (nI vr)) 13 as9) 16 ls9) 5 (nI cs45)) 13 as46) 14 wt47) 15 wf48) (updR (updR (updR R 2 (.ref pq)) 3 (.ref mq)) 4 (va_rf lp9)) Z B44 J K43 w pq dr ml nd o1 sz t49 rt g pb (by omega) (BdE.pt hbe76 hwp hps).1 (BdE.pt hbe76 hwp hps).2.1 hf75 (by omega) hna.1.1 (NaB.be hbe76 hbf83 hwp hps.2.1 hdr0 (hbr84 11 (by decide) (by decide)) hna).1.2.2 hO hl0) (gV pw_176 pw_177 pw_178 pw_63 pw_114) hV_X0_fit qr92 0 hqr93 rfl rfl rfl (Nat.le_of_ble_eq_true rfl) dX0_returnStatement_27 ⟨(by show 0 + 1 ≤ 1; omega), (by show 0 + 6 ≤ 6; omega)⟩ ⟨(by show 7 + 1 ≤ (5 * n + 33); omega), (by show 8 + (4 + 11) + 122 ≤ (200 * n + 560); omega)⟩ (fun v91 u89 H locs hw90 hP hD hS => ?_) (fun ux ce9 q9 H9 locs9 hux hP9 hD9 hS9 hce hcv hcl => pb_out ux (ThQ.up (Thx.same (Thx.f (Thx.f (Thx.f (Thx.f (Bth.thx hbb77) (by omega)) (by omega)) (by omega)) (by omega)) rfl) (show RhX (updR (updR (updR R 2 (.ref pq)) 3 (.ref mq)) 4 (va_rf lp9)) (updR (updR (updR (updR R 2 (.ref pq)) 3 (.ref mq)) 4 (va_rf lp9)) 2 (.ref pq)) from fun k9 hk9 => by unfold updR; simp only [show ¬ k9 = 1 by omega, show ¬ k9 = 2 by omega, show ¬ k9 = 3 by omega, show ¬ k9 = 4 by omega, if_false]) hux) hnt hlocks hce hcv hcl hP9 hD9 hS9 (by show 0 + 1 ≤ 1; omega) (by show 0 + 6 ≤ 6; omega))
    obtain ⟨w, _⟩ := u89
    obtain ⟨hw90, h94, hO⟩ := hw90
    have h94 : FtQ pb t49 rt := h94
    obtain rfl : v91 = none := hw90
    have hO : OKP G h0 a (upd (upd (upd (upd (upd (upd (upd (upd (upd (upd F 2 (nI sz)) 5 (nI cs45)) 6 (nI rg)) 7 (nI hd)) 8 (nI dp)) 12 (nI vr)) 13 as46) 14 wt47) 15 wf48) 16 ls9) (updR (updR (updR R 2 (.ref pq)) 3 (.ref mq)) 4 (va_rf lp9)) Z B44 J K43 w := hO.to rfl
    refine W.widen (k := 0) (n := 0) (by show 0 + 0 ≤ 0; omega) (by show 0 + 0 ≤ 0; omega) ?_
    refine W.eq (g2 := F0 m 30 ls []) rfl ?_
    have hst95 : StW pb.1 pb.2.1 pb.2.2.1 pb.2.2.2 Ag Ag50 Q9 Q9 pd pd m9 dp lw cs cs45 as9 as46 hd hd sl sl gr gr (B44 16) (B44 17) (B44 18) (B44 19) (u51 :: ([] : List Nat)) := StW.ev hst0 (VaQ.ev (h62 trivial) h59 h94.1)
    have hut96 : UTb u51 (nI t49) as46 wt47 wf48 := VaQ.ut (h62 trivial) h94.1
    refine lv_goto (tgt := 58) hx hb dX0_returnStatement_30 (by decide) ?_
    refine lv_aload_n hx hb dX0_returnStatement_58 rfl (lv_at hl 0 rfl) ?_
    refine c_get (v := .ref (a 2)) (C := RX0) (Tc := TX0) (N := 13) (ci := 0) hx hb hq pin_wsX00 hown hE hP hO 24 (sg_24 G h0 a _ _ _ _ _) rfl 1 (by decide) (hq _ pw_5) (fun _ h9 => h9) rfl dX0_returnStatement_59 ?_
    refine lv_aload_n hx hb dX0_returnStatement_62 rfl (lv_at hl 1 rfl) ?_
    refine p_get (v := .ref o1) (C := RX7) (Tc := TX7) (N := 11) (ci := 13) hx hb hq pin_wsX70 hown hE hP hO (by rw [hf71]; decide) (rep_1 hf71) rfl 6 (by decide) (hq _ pw_180) (fun _ h9 => h9) (congrArg (fun z => some (va_rf z)) hf74) dX0_returnStatement_63 ?_
    refine lv_ifnonnull (tgt := 74) hx hb dX0_returnStatement_66 (by decide) ?_
    refine lv_bipush (v := 27) hx hb dX0_returnStatement_74 (by decide) ?_
    refine lv_iconst (v := 0) hx hb dX0_returnStatement_76 (by decide) ?_
    refine lv_iconst (v := 0) hx hb dX0_returnStatement_77 (by decide) ?_
    have hO : OKW G h0 a (upd (upd (upd (upd (upd (upd (upd (upd (upd (upd (upd (upd F 2 (nI sz)) 5 (nI cs45)) 6 (nI rg)) 7 (nI hd)) 8 (nI dp)) 12 (nI vr)) 13 as46) 14 wt47) 15 wf48) 16 ls9) 5 (nI cs45)) 7 (nI hd)) (updR (updR (updR R 2 (.ref pq)) 3 (.ref mq)) 4 (va_rf lp9)) Z B44 J K43.1 (fun q99 x99 => x99 = rep G a K43 q99) w := hO.to rfl
    obtain ⟨_, qr100, hqr101⟩ := hO.2.1 13 _ (sg_13 G h0 a _ _ _ _ _)
    refine pc_V0 (G := G) (As := [.int 27, .int 0, .int 0]) (rest := []) hx hb hml hown hq hE hX pX0_al hP hD hS hA hl.1 (Y_emit l G h0 a (upd (upd (upd (upd (upd (upd (upd (upd (upd (upd F 2 (nI sz)) 5 (nI cs45)) 6 (nI rg)) 7 (nI hd)) 8 (nI dp)) 12 (nI vr)) 13 as46) 14 wt47) 15 wf48) 16 ls9) (updR (updR (updR R 2 (.ref pq)) 3 (.ref mq)) 4 (va_rf lp9)) Z B44 J K43.1 (fun q99 x99 => x99 = rep G a K43 q99) w 27 0 0 cs45 hd (by omega) hO) (gV pw_129 pw_130 pw_131 pw_70 pw_115) hV_X1_emit qr100 1 hqr101 rfl rfl rfl (Nat.le_of_ble_eq_true rfl) dX0_returnStatement_78 ⟨(by show 0 + 0 ≤ 1; omega), (by show 0 + 0 ≤ 6; omega)⟩ ⟨(by show 2 + 1 ≤ (5 * n + 33); omega), (by show 8 + (4 + 11) + 60 ≤ (200 * n + 560); omega)⟩ (fun v99 u97 H locs hw98 hP hD hS => ?_)
    obtain ⟨w, _⟩ := u97
    obtain ⟨hw98, hO⟩ := hw98
    obtain rfl : v99 = none := hw98
    have hO : OKP G h0 a (upd (upd (upd (upd (upd (upd (upd (upd (upd (upd F 2 (nI sz)) 5 (nI (cs45 + 1))) 6 (nI rg)) 7 (nI hd)) 8 (nI dp)) 12 (nI vr)) 13 as46) 14 wt47) 15 wf48) 16 ls9) (updR (updR (updR R 2 (.ref pq)) 3 (.ref mq)) 4 (va_rf lp9)) Z (updA (updA (updA (updA B44 16 (upd ((B44 16)) cs45 27)) 17 (upd ((B44 17)) cs45 0)) 18 (upd ((B44 18)) cs45 0)) 19 (upd ((B44 19)) cs45 (nI hd))) J K43 w := hO.to rfl
    refine W.widen (k := 0) (n := 0) (Nat.le_of_ble_eq_true rfl) (Nat.le_of_ble_eq_true rfl) ?_
    refine W.eq (g2 := F0 m 81 ls []) rfl ?_
    have hsw102 : ∀ x9 : Nat, x9 < cs → (upd ((B44 16)) cs45 27) x9 = B 16 x9 := fun x9 hx9 => (if_neg (by omega)).trans (hsw79 x9 hx9)
    have hsw103 : ∀ x9 : Nat, x9 < cs → (upd ((B44 17)) cs45 0) x9 = B 17 x9 := fun x9 hx9 => (if_neg (by omega)).trans (hsw80 x9 hx9)
    have hsw104 : ∀ x9 : Nat, x9 < cs → (upd ((B44 18)) cs45 0) x9 = B 18 x9 := fun x9 hx9 => (if_neg (by omega)).trans (hsw81 x9 hx9)
    have hsw105 : ∀ x9 : Nat, x9 < cs → (upd ((B44 19)) cs45 (nI hd)) x9 = B 19 x9 := fun x9 hx9 => (if_neg (by omega)).trans (hsw82 x9 hx9)
    obtain ⟨Ag106, hst107⟩ : ∃ A5 : Nat → AS, StW pb.1 pb.2.1 pb.2.2.1 pb.2.2.2 Ag A5 Q9 Q9 pd pd m9 dp lw cs (cs45 + 1) as9 (-1) hd hd sl sl gr gr (upd ((B44 16)) cs45 27) (upd ((B44 17)) cs45 0) (upd ((B44 18)) cs45 0) (upd ((B44 19)) cs45 (nI hd)) ([] : List Nat) := ⟨(upS Ag50 (cs45 + 1) (rcA (-1), hd, sl, ([] : List Nat))), StW.retv hst95 (by rw [hrv.2]; exact UTb.tlf hut96 h59 h94) (by rw [hrv.2]; exact h94.2.1)⟩
    have hng108 : Nng (upd ((B44 18)) cs45 0) := Nng.set hng78 (k := 0) (by omega)
    refine lv_aload_n hx hb dX0_returnStatement_81 rfl (lv_at hl 0 rfl) ?_
    refine lv_iconst (v := (-1)) hx hb dX0_returnStatement_82 (by decide) ?_
    refine c_put (v := .int (-1)) (ty := .int) (C := RX0) (Tc := TX0) (N := 13) (ci := 0) hx hb hq pin_wsX00 tyX0 tyX0_ok nmX0 hown hE hP hD hS hO 24 (sg_24 G h0 a _ _ _ _ _) rfl 8 (by decide) (hq _ pw_55) (fun _ h9 => h9) rfl (by decide +kernel) rfl rfl (Nat.le_of_ble_eq_true rfl) (sf_13 G h0 a _ _ _ _ _ (-1)) dX0_returnStatement_83 (fun H locs w hP hD hS hO => ?_)
    refine W_size (fun hz1 hz2 => ?_)
    refine vx_ret ?_
    have hz109 : SmW B (updA (updA (updA (updA B44 16 (upd ((B44 16)) cs45 27)) 17 (upd ((B44 17)) cs45 0)) 18 (upd ((B44 18)) cs45 0)) 19 (upd ((B44 19)) cs45 (nI hd))) cs := (fun x9 hx9 => ⟨hsw102 x9 hx9, hsw103 x9 hx9, hsw104 x9 hx9, hsw105 x9 hx9⟩)
    have hz110 : BdE K K43 := hbe76
    have hz111 : BeF K K43 := hbf83
    have hz112 : BeL K K43 none := hbl85
    have hz113 : Bth B (updA (updA (updA (updA B44 16 (upd ((B44 16)) cs45 27)) 17 (upd ((B44 17)) cs45 0)) 18 (upd ((B44 18)) cs45 0)) 19 (upd ((B44 19)) cs45 (nI hd))) := (show Thx (upd (upd (upd (upd (upd (upd (upd (upd F 2 (nI sz)) 5 (nI cs)) 6 (nI rg)) 7 (nI hd)) 8 (nI dp)) 12 (nI vr)) 13 as9) 16 ls9) (upd (upd (upd (upd (upd (upd (upd (upd (upd (upd (upd (upd F 2 (nI sz)) 5 (nI cs)) 6 (nI rg)) 7 (nI hd)) 8 (nI dp)) 12 (nI vr)) 13 as9) 16 ls9) 5 (nI (cs45 + 1))) 13 (-1)) 14 wt47) 15 wf48) B (updA (updA (updA (updA B44 16 (upd ((B44 16)) cs45 27)) 17 (upd ((B44 17)) cs45 0)) 18 (upd ((B44 18)) cs45 0)) 19 (upd ((B44 19)) cs45 (nI hd))) from (Thx.b (Thx.b8 (Thx.b (Thx.b (Thx.f (Thx.f (Thx.f (Thx.f (Bth.thx hbb77) (by omega)) (by omega)) (by omega)) (by omega)) (by omega) (by decide)) (by omega) (by decide)) hng108) (by omega) (by decide))).2
    have hz114 : BsR B (updA (updA (updA (updA B44 16 (upd ((B44 16)) cs45 27)) 17 (upd ((B44 17)) cs45 0)) 18 (upd ((B44 18)) cs45 0)) 19 (upd ((B44 19)) cs45 (nI hd))) := (BsR.up (BsR.up (BsR.up (BsR.up hbr84 (by omega)) (by omega)) (by omega)) (by omega))
    have hz115 : cs ≤ (cs45 + 1) ∧ (cs45 + 1) + 1 ≤ cs + 2 * tlE g q := (by omega)
    have hz116 : dp ≤ dp ∧ dp ≤ 71 := (by omega)
    have hz117 : vr ≤ vr ∧ vr ≤ 30 ∧ hd + vr = hd + vr := (by omega)
    have hz118 : AsO ((-1) : Int32) := AsO.m1
    have hz119 : VrS B (updA (updA (updA (updA B44 16 (upd ((B44 16)) cs45 27)) 17 (upd ((B44 17)) cs45 0)) 18 (upd ((B44 18)) cs45 0)) 19 (upd ((B44 19)) cs45 (nI hd))) vr := hvs87
    have hz120 : cs < (cs45 + 1) := (by omega)
    have hz121 : EnV ((updA (updA (updA (updA B44 16 (upd ((B44 16)) cs45 27)) 17 (upd ((B44 17)) cs45 0)) 18 (upd ((B44 18)) cs45 0)) 19 (upd ((B44 19)) cs45 (nI hd))) 26) ((updA (updA (updA (updA B44 16 (upd ((B44 16)) cs45 27)) 17 (upd ((B44 17)) cs45 0)) 18 (upd ((B44 18)) cs45 0)) 19 (upd ((B44 19)) cs45 (nI hd))) 27) nd vr hd c0 sl := hen86
    have hz122 : StW pb.1 pb.2.1 pb.2.2.1 pb.2.2.2 Ag Ag106 Q9 Q9 pd pd m9 dp lw cs (cs45 + 1) as9 ((-1) : Int32) hd hd sl sl gr gr ((updA (updA (updA (updA B44 16 (upd ((B44 16)) cs45 27)) 17 (upd ((B44 17)) cs45 0)) 18 (upd ((B44 18)) cs45 0)) 19 (upd ((B44 19)) cs45 (nI hd))) 16) ((updA (updA (updA (updA B44 16 (upd ((B44 16)) cs45 27)) 17 (upd ((B44 17)) cs45 0)) 18 (upd ((B44 18)) cs45 0)) 19 (upd ((B44 19)) cs45 (nI hd))) 17) ((updA (updA (updA (updA B44 16 (upd ((B44 16)) cs45 27)) 17 (upd ((B44 17)) cs45 0)) 18 (upd ((B44 18)) cs45 0)) 19 (upd ((B44 19)) cs45 (nI hd))) 18) ((updA (updA (updA (updA B44 16 (upd ((B44 16)) cs45 27)) 17 (upd ((B44 17)) cs45 0)) 18 (upd ((B44 18)) cs45 0)) 19 (upd ((B44 19)) cs45 (nI hd))) 19) [] := hst107
    have hz123 : hd = hd := rfl
    have hO : OKP G h0 a (upd (upd (upd (upd (upd (upd (upd (upd (upd (upd F 2 (nI sz)) 5 (nI (cs45 + 1))) 6 (nI rg)) 7 (nI hd)) 8 (nI dp)) 12 (nI vr)) 13 ((-1) : Int32)) 14 wt47) 15 wf48) 16 ls9) (updR (updR (updR R 2 (.ref pq)) 3 (.ref mq)) 4 (va_rf lp9)) Z (updA (updA (updA (updA B44 16 (upd ((B44 16)) cs45 27)) 17 (upd ((B44 17)) cs45 0)) 18 (upd ((B44 18)) cs45 0)) 19 (upd ((B44 19)) cs45 (nI hd))) J K43 w := hO.to rfl
    refine W.widen (k := 1) (n := 6) (by omega) (by omega) ?_
    have hzz1 : H.size ≤ s.heap.size + (0) := (by have z : 0 ≤ 0 := (by omega); omega)
    have hzz2 : hSl H ≤ hSl s.heap + (0) := (by have z : 0 ≤ 0 := (by omega); omega)
    exact W.vret hx hb hr (fun t99 ht99 hW99 => ⟨⟨_, (w, (K43, (updA (updA (updA (updA B44 16 (upd ((B44 16)) cs45 27)) 17 (upd ((B44 17)) cs45 0)) 18 (upd ((B44 18)) cs45 0)) 19 (upd ((B44 19)) cs45 (nI hd))), (cs45 + 1), ((-1) : Int32), wt47, wf48, vr, hd, dp, Ag106, sl)), rfl, ⟨rfl, hz109, hz110, hz111, hz112, hz113, hz114, hz115, hz116, hz117, hz118, hz119, hz120, hz121, hz122, hz123, hO⟩, by rw [ht99]; exact hP, hD, by rw [ht99]; exact hzz1, by rw [ht99]; exact hzz2⟩, hS.F ht99⟩) hS.2.2 dX0_returnStatement_86

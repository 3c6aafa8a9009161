theorem EntJ.same {O R O1 R1 : Nat → Int32} {A A1 : Nat → AS} {xs : List Nat} {lo cs cs1 hd : Nat} {sl : Nat → Nat} {bs : Int32} (h : EntJ O R A xs lo cs hd sl bs) (hs : ∀ z : Nat, z < cs → O1 z = O z ∧ R1 z = R z ∧ A1 z = A z) (hc : cs ≤ cs1) : EntJ O1 R1 A1 xs lo cs1 hd sl bs := fun z hz => by
  obtain ⟨a1, a2, a3, a4, a5⟩ := h z hz
  obtain ⟨b1, b2, b3⟩ := hs z a2
  rw [b1, b2, b3]
  exact ⟨a1, by omega, a3, a4, a5⟩
theorem PdS.js {pd pd1 : Nat → Prop} {xb xb1 xc xc1 js : List Nat} {cs cs1 : Nat} (h : PdS pd pd1 xb xb1 xc xc1 js cs cs1) : ∀ z : Nat, z ∈ js → cs ≤ z ∧ z < cs1 ∧ pd1 z := fun z hz => by
  obtain ⟨a1, a2, a3, _⟩ := h.2.2.2.2.2.2 z hz
  exact ⟨a1, a2, a3⟩
set_option maxHeartbeats 60000000 in
set_option maxRecDepth 100000 in
theorem Y_tryN (l : Launch) (G : pT) (h0 : Nat) (a : Nat → Nat) (F : Nat → Int32) (R : Nat → Value) (Z : Int64) (B : Nat → Nat → Int32) (J : Nat → Nat → Int64) (K : PK) (w : va_W) (pq : Nat) (dr : Nat) (ml : Nat) (nd : Nat) (nm : Nat) (cp : Nat) (it : Nat → Nat) (s9 : Nat) (q : Nat) (mq : Nat) (cs : Nat) (vr : Nat) (sz : Nat) (n : Nat) (q1 : Nat) (hd : Nat) (dp : Nat) (rg : Nat) (ls9 : Int32) (lp9 : Option Nat) (g : Nat → Nat → Nat) (rk : Nat → Nat) (pb : PNb) (Ag : Nat → AS) (Q9 : RX) (pd : Nat → Prop) (sl : Nat → Nat) (m9 : Nat) (lw : Nat) (c0 : Nat) (rt : Nat) (gr : Nat) (as9 : Int32) (hdL : Nat) (slL : Nat → Nat) (xb : List Nat) (xc : List Nat) (rL : Prop) (hsz : sz ≤ 5000) (hwp : WPr G K g) (hps : PgT G K g (a 1) pq dr ml nd nm cp it s9) (hrk : RkO K rk) (hcs : cs ≤ 10000) (hvr : vr ≤ 30) (hng : Nng (B 18)) (hmq : K.1 mq = 3) (hqT : K.1 q = 1) (hqL : 1 ≤ g 0 q ∧ g 0 q ≤ n) (hrt : K.2.1 10 mq = nI rt) (hrv : TyV nd rt ∧ (bX pb).2.2.2.2.1 m9 = rt) (hdp : dp ≤ 71) (hrg : rg ≤ 625) (hhd : hd ≤ 41 + vr) (hlo : LpO K lp9) (hek : EkA pb K g (B 7) (B 11) sz) (hcO : OwC K dr mq c0) (hna : NaB pb G K (B 11) dr nd sz) (hen : EnV (B 26) (B 27) nd vr hd c0 sl) (hao : AsO as9) (hem : EmB pb B Ag pd m9 dp lw cs as9 hd sl []) (hrm : cs + 2 * tlE g q ≤ 9999) (hgr : rg ≤ 625 ∧ rg ≤ gr ∧ (rg = 625 ∨ rg = gr)) (hns : hd + ndE g q ≤ 41 + vr) (hsk : SkA K g (B 11) sz nd) (hlp : LpS K (B 16) (B 17) Ag pd lp9 lw cs hd sl hdL slL xb xc) (hrq : RgQx B Q9 gr nd) (hrL : ¬ as9 = -1 → rL) (hlr : LpR K lp9 rL) (hc0 : K.2.2.1 0 q = some q1) (ht0 : K.1 q1 = 1) (hv0 : 1 ≤ g 0 q1 ∧ g 0 q1 + 1 ≤ n) (hkd : K.2.1 0 q = 32) (hc2 : K.2.2.1 2 q = none) (ist : IhZ l G n) (hO : OKP G h0 a (upd (upd (upd (upd (upd (upd (upd (upd F 2 (nI sz)) 5 (nI cs)) 6 (nI rg)) 7 (nI hd)) 8 (nI dp)) 12 (nI vr)) 13 as9) 16 ls9) (updR (updR (updR R 2 (.ref pq)) 3 (.ref mq)) 4 (va_rf lp9)) Z B J K w) (hl0 : l.stackTraces = false) : PBn l G pX0 yX0_tryStatement cX0_tryStatement 11 none ({ frames := (5 * n + 46), cells := ((rE (g 2 q) - rS (g 2 q)) + 1), slots := (6 * (rE (g 2 q) - rS (g 2 q)) + 6), locals := (200 * n + 1120) }) [.ref (a 4), .ref q] w (fun (v : Option Value) (u : va_W × (PK × (Nat → Nat → Int32) × Nat × Int32 × Int32 × Int32 × Nat × (Nat → AS) × Nat × Nat × Int32 × RX × (Nat → Prop) × List Nat × List Nat)) => v = none ∧ (SmW B u.2.2.1 cs) ∧ (BdE K u.2.1) ∧ (BeF K u.2.1) ∧ (BeL K u.2.1 lp9) ∧ (Bth B u.2.2.1) ∧ (BtR B u.2.2.1) ∧ (cs ≤ u.2.2.2.1 ∧ u.2.2.2.1 + 1 ≤ cs + 2 * tlE g q) ∧ (dp ≤ u.2.2.2.2.2.2.2.1 ∧ u.2.2.2.2.2.2.2.1 ≤ 71) ∧ (AsO u.2.2.2.2.1) ∧ (VrS B u.2.2.1 vr) ∧ (gr ≤ u.2.2.2.2.2.2.2.2.2.2.1 ∧ u.2.2.2.2.2.2.2.2.2.1 ≤ 625 ∧ u.2.2.2.2.2.2.2.2.2.1 ≤ u.2.2.2.2.2.2.2.2.2.2.1 ∧ (u.2.2.2.2.2.2.2.2.2.1 = 625 ∨ u.2.2.2.2.2.2.2.2.2.1 = u.2.2.2.2.2.2.2.2.2.2.1)) ∧ (EnV (u.2.2.1 26) (u.2.2.1 27) nd vr hd c0 sl) ∧ (StW pb.1 pb.2.1 pb.2.2.1 pb.2.2.2 Ag u.2.2.2.2.2.2.2.2.1 Q9 u.2.2.2.2.2.2.2.2.2.2.2.2.1 pd u.2.2.2.2.2.2.2.2.2.2.2.2.2.1 m9 u.2.2.2.2.2.2.2.1 lw cs u.2.2.2.1 as9 u.2.2.2.2.1 hd hd sl sl gr u.2.2.2.2.2.2.2.2.2.2.1 (u.2.2.1 16) (u.2.2.1 17) (u.2.2.1 18) (u.2.2.1 19) []) ∧ (LpS u.2.1 (u.2.2.1 16) (u.2.2.1 17) u.2.2.2.2.2.2.2.2.1 u.2.2.2.2.2.2.2.2.2.2.2.2.2.1 lp9 lw u.2.2.2.1 hd sl hdL slL u.2.2.2.2.2.2.2.2.2.2.2.2.2.2.1 u.2.2.2.2.2.2.2.2.2.2.2.2.2.2.2) ∧ (PdS pd u.2.2.2.2.2.2.2.2.2.2.2.2.2.1 xb u.2.2.2.2.2.2.2.2.2.2.2.2.2.2.1 xc u.2.2.2.2.2.2.2.2.2.2.2.2.2.2.2 [] cs u.2.2.2.1) ∧ (RgQx u.2.2.1 u.2.2.2.2.2.2.2.2.2.2.2.2.1 u.2.2.2.2.2.2.2.2.2.2.1 nd) ∧ (LpR u.2.1 lp9 rL) ∧ (OKP G h0 a (upd (upd (upd (upd (upd (upd (upd (upd (upd (upd F 2 (nI sz)) 5 (nI u.2.2.2.1)) 6 (nI u.2.2.2.2.2.2.2.2.2.1)) 7 (nI hd)) 8 (nI u.2.2.2.2.2.2.2.1)) 12 (nI vr)) 13 u.2.2.2.2.1) 14 u.2.2.2.2.2.1) 15 u.2.2.2.2.2.2.1) 16 u.2.2.2.2.2.2.2.2.2.2.2.1) (updR (updR (updR R 2 (.ref pq)) 3 (.ref mq)) 4 (va_rf lp9)) Z u.2.2.1 J u.2.1 u.1)) (fun u => u.1) (fun (u : va_W × (PK × (Nat → Nat → Int32) × Nat × Int32 × Int32 × Int32 × Nat × (Nat → AS) × Nat × Nat × Int32 × RX × (Nat → Prop) × List Nat × List Nat)) => (rE (g 2 q) - rS (g 2 q))) (fun (u : va_W × (PK × (Nat → Nat → Int32) × Nat × Int32 × Int32 × Int32 × Nat × (Nat → AS) × Nat × Nat × Int32 × RX × (Nat → Prop) × List Nat × List Nat)) => (6 * (rE (g 2 q) - rS (g 2 q)))) (fun (u : va_W × (Nat → Int32) × (Nat → Value) × (Nat → Nat → Int32)) => ThQ G h0 a (upd (upd (upd (upd (upd (upd (upd (upd F 2 (nI sz)) 5 (nI cs)) 6 (nI rg)) 7 (nI hd)) 8 (nI dp)) 12 (nI vr)) 13 as9) 16 ls9) (updR (updR (updR R 2 (.ref pq)) 3 (.ref mq)) 4 (va_rf lp9)) Z B J u) (fun u => u.1) := by
  intro sz
  refine vx_ofW (cc := cX0_tryStatement) (maxL := 11) (ret := none) (by decide) rfl ?_
  intro p e s m args below meth c s₁ B9 hml hnt hv
  obtain ⟨rfl, hsz, hP, hD0, hE, hX⟩ := hv
  have hx := B9.exec
  have hb := B9.bytes
  have hr := B9.returns
  have hts := atoms_spec (ws := Cond.code yX0_tryStatement cX0_tryStatement 11 none :: pw) B9.pre
  have hq : ∀ w ∈ pw, w.before _ s = true := fun w h => hts w (List.mem_cons_of_mem _ h)
  have hown : s.vm.findClass RX0 = some m.cls := findClass_of_methodNamed B9.named
  have hlocks := B9.notSynchronized
  subst hsz
  have hD := hD0.self (sz := s.heap.size)
  have hA : ∀ q : Nat, s.heap.size ≤ q → va_A w s.heap.size q := fun q h => Or.inr h
  generalize va_A w s.heap.size = A at hD hE hA ⊢
  have hS : va_S A s.heap s.heap [] := va_S.rf
  have hl := lv_entry ([.ref (a 4), .ref q]) (n := 11) (Nat.le_of_ble_eq_true rfl)
  rw [lg_entry_eq]
  generalize (lg_sl ([.ref (a 4), .ref q]) ++ List.replicate (11 - (lg_sl ([.ref (a 4), .ref q])).length) Slot.unset).toArray = ls at hl ⊢
  replace hl : lv_has ls 11 [(0, .ref (a 4)), (1, .ref q)] := hl
  have hpg := hps.1
  have hp1 := hpg.1
  have hp2 := hpg.2.1
  have hp3 := hpg.2.2.1
  have hp4 := hpg.2.2.2.1
  have hp5 := hpg.2.2.2.2.1
  have hp6 := hpg.2.2.2.2.2.1
  have hp8 := hpg.2.2.2.2.2.2.2.1
  have hp9 := hpg.2.2.2.2.2.2.2.2
  have hdr0 : ¬ K.1 dr = 0 := by rw [hp4]; decide
  have hrl := hrv.1.lt hna.1.1
  have hskq := hsk q hqT hqL.1
  have htlq9 : tlE g q = rE (g 2 q) - rS (g 2 q) := rfl
  have hwfa : WfA (1, hd, sl, ([] : List Nat)) := hem.2.2.1
  have hhdp := hem.2.2.2.1
  have hloc := hem.2.1
  have hst0 : StW pb.1 pb.2.1 pb.2.2.1 pb.2.2.2 Ag Ag Q9 Q9 pd pd m9 dp lw cs cs as9 as9 hd hd sl sl gr gr (B 16) (B 17) (B 18) (B 19) ([] : List Nat) := StW.nil hem
  have hnd := hwp.1 q hqT hqL.1
  have hiq := hnd.it
  have htq : tlE g q = rE (g 2 q) - rS (g 2 q) := rfl
  have hri0 := NdO.iv32a hnd hkd hc0
  have hrx0 := (hwp.1 q1 ht0 hv0.1).it
  have hk1 := NdO.k32 hnd hkd (by decide) (by decide) hc0
  obtain ⟨hs32, hs32c⟩ := hskq.2.2.2.2.2.2.2.2.1 hkd q1 hc0
  have htq1 : tlE g q1 = rE (g 2 q1) - rS (g 2 q1) := rfl
  have hsb := (hskq.2.2.2.2.2.2.2.2.2.2 (Or.inr hkd)).2
  have h379 := hna.1.1
  refine lv_aload_n hx hb dX0_tryStatement_0 rfl (lv_at hl 1 rfl) ?_
  refine p_get (v := .null) (C := RX7) (Tc := TX7) (N := 11) (ci := 13) hx hb hq pin_wsX70 hown hE hP hO (by rw [hqT]; decide) (rep_1 hqT) rfl 8 (by decide) (hq _ pw_196) (fun _ h9 => h9) (congrArg (fun z => some (va_rf z)) hc2) dX0_tryStatement_1 ?_
  refine lv_ifnullN (tgt := 11) hx hb dX0_tryStatement_4 (by decide) ?_
  refine lv_iconst (v := 0) hx hb dX0_tryStatement_11 (by decide) ?_
  refine lv_istore_n (lv' := [(2, .int 0), (0, .ref (a 4)), (1, .ref q)]) hx hb dX0_tryStatement_12 rfl hl (by decide) rfl (fun ls hl => ?_)
  refine lv_iload_n hx hb dX0_tryStatement_13 rfl (lv_at hl 0 rfl) ?_
  refine lv_if_eq (tgt := 22) hx hb dX0_tryStatement_14 (by decide) (fun c1 => ?_) (fun c1 => absurd c1 (by decide))
  refine lv_bipush (v := 6) hx hb dX0_tryStatement_22 (by decide) ?_
  refine lv_istore_n (lv' := [(3, .int 6), (2, .int 0), (0, .ref (a 4)), (1, .ref q)]) hx hb dX0_tryStatement_24 rfl hl (by decide) rfl (fun ls hl => ?_)
  refine lv_aload_n hx hb dX0_tryStatement_25 rfl (lv_at hl 2 rfl) ?_
  refine c_get (v := .ref (a 2)) (C := RX0) (Tc := TX0) (N := 13) (ci := 0) hx hb hq pin_wsX00 hown hE hP hO 24 (sg_24 G h0 a _ _ _ _ _) rfl 1 (by decide) (hq _ pw_5) (fun _ h9 => h9) rfl dX0_tryStatement_26 ?_
  refine c_get (v := .int (nI hd)) (C := RX1) (Tc := TX1) (N := 13) (ci := 1) hx hb hq pin_wsX10 hown hE hP hO 13 (sg_13 G h0 a _ _ _ _ _) rfl 11 (by decide) (hq _ pw_54) (fun _ h9 => h9) rfl dX0_tryStatement_29 ?_
  refine lv_istore (lv' := [(4, .int (nI hd)), (3, .int 6), (2, .int 0), (0, .ref (a 4)), (1, .ref q)]) hx hb dX0_tryStatement_32 hl (by decide) rfl (fun ls hl => ?_)
  refine lv_aload_n hx hb dX0_tryStatement_34 rfl (lv_at hl 3 rfl) ?_
  refine c_get (v := .int as9) (C := RX0) (Tc := TX0) (N := 13) (ci := 0) hx hb hq pin_wsX00 hown hE hP hO 24 (sg_24 G h0 a _ _ _ _ _) rfl 8 (by decide) (hq _ pw_55) (fun _ h9 => h9) rfl dX0_tryStatement_35 ?_
  refine lv_istore (lv' := [(5, .int as9), (4, .int (nI hd)), (3, .int 6), (2, .int 0), (0, .ref (a 4)), (1, .ref q)]) hx hb dX0_tryStatement_38 hl (by decide) rfl (fun ls hl => ?_)
  refine lv_aload_n hx hb dX0_tryStatement_40 rfl (lv_at hl 4 rfl) ?_
  refine lv_dup hx hb dX0_tryStatement_41 rfl ?_
  refine c_get (v := .int ls9) (C := RX0) (Tc := TX0) (N := 13) (ci := 0) hx hb hq pin_wsX00 hown hE hP hO 24 (sg_24 G h0 a _ _ _ _ _) rfl 12 (by decide) (hq _ pw_74) (fun _ h9 => h9) rfl dX0_tryStatement_42 ?_
  refine lv_iload_n hx hb dX0_tryStatement_45 rfl (lv_at hl 3 rfl) ?_
  refine lv_if_eq (tgt := 53) hx hb dX0_tryStatement_46 (by decide) (fun c2 => ?_) (fun c2 => absurd c2 (by decide))
  refine lv_iconst (v := 0) hx hb dX0_tryStatement_53 (by decide) ?_
  refine lv_iadd hx hb dX0_tryStatement_54 ?_
  refine lv_topi (fun x3 e4 => ?_)
  refine c_put (v := .int x3) (ty := .int) (C := RX0) (Tc := TX0) (N := 13) (ci := 0) hx hb hq pin_wsX00 tyX0 tyX0_ok nmX0 hown hE hP hD hS hO 24 (sg_24 G h0 a _ _ _ _ _) rfl 12 (by decide) (hq _ pw_74) (fun _ h9 => h9) rfl (by decide +kernel) rfl rfl (Nat.le_of_ble_eq_true rfl) (sf_16 G h0 a _ _ _ _ _ x3) dX0_tryStatement_55 (fun H locs w hP hD hS hO => ?_)
  refine lv_aload_n hx hb dX0_tryStatement_58 rfl (lv_at hl 4 rfl) ?_
  refine c_get (v := .ref (a 2)) (C := RX0) (Tc := TX0) (N := 13) (ci := 0) hx hb hq pin_wsX00 hown hE hP hO 24 (sg_24 G h0 a _ _ _ _ _) rfl 1 (by decide) (hq _ pw_5) (fun _ h9 => h9) rfl dX0_tryStatement_59 ?_
  refine c_get (v := .int (nI cs)) (C := RX1) (Tc := TX1) (N := 13) (ci := 1) hx hb hq pin_wsX10 hown hE hP hO 13 (sg_13 G h0 a _ _ _ _ _) rfl 4 (by decide) (hq _ pw_75) (fun _ h9 => h9) rfl dX0_tryStatement_62 ?_
  refine lv_istore (lv' := [(6, .int (nI cs)), (5, .int as9), (4, .int (nI hd)), (3, .int 6), (2, .int 0), (0, .ref (a 4)), (1, .ref q)]) hx hb dX0_tryStatement_65 hl (by decide) rfl (fun ls hl => ?_)
  refine lv_aload_n hx hb dX0_tryStatement_67 rfl (lv_at hl 5 rfl) ?_
  refine lv_aload_n hx hb dX0_tryStatement_68 rfl (lv_at hl 6 rfl) ?_
  refine p_get (v := .ref q1) (C := RX7) (Tc := TX7) (N := 11) (ci := 13) hx hb hq pin_wsX70 hown hE hP hO (by rw [hqT]; decide) (rep_1 hqT) rfl 6 (by decide) (hq _ pw_180) (fun _ h9 => h9) (congrArg (fun z => some (va_rf z)) hc0) dX0_tryStatement_69 ?_
  have htl5 : tlE g q1 = rE (g 2 q1) - rS (g 2 q1) := rfl
  have hO : OKP G h0 a (upd (upd (upd (upd (upd (upd (upd (upd (upd (upd (upd (upd (upd (upd (upd (upd (upd F 2 (nI sz)) 5 (nI cs)) 6 (nI rg)) 7 (nI hd)) 8 (nI dp)) 12 (nI vr)) 13 as9) 16 ls9) 16 x3) 2 (nI sz)) 5 (nI cs)) 6 (nI rg)) 7 (nI hd)) 8 (nI dp)) 12 (nI vr)) 13 as9) 16 x3) (updR (updR (updR (updR (updR (updR R 2 (.ref pq)) 3 (.ref mq)) 4 (va_rf lp9)) 2 (.ref pq)) 3 (.ref mq)) 4 (va_rf lp9)) Z B J K w := hO.to rfl
  obtain ⟨_, qr9, hqr10⟩ := hO.2.1 24 _ (sg_24 G h0 a _ _ _ _ _)
  refine pn_V0 (G := G) (As := [.ref q1]) (rest := []) hx hb hml hown hq hE hX pX0_al hP hD hS hA hl.1 (Y_block l G h0 a (upd (upd (upd (upd (upd (upd (upd (upd (upd F 2 (nI sz)) 5 (nI cs)) 6 (nI rg)) 7 (nI hd)) 8 (nI dp)) 12 (nI vr)) 13 as9) 16 ls9) 16 x3) (updR (updR (updR R 2 (.ref pq)) 3 (.ref mq)) 4 (va_rf lp9)) Z B J K w pq dr ml nd nm cp it s9 q1 mq cs vr sz (n - 1) hd dp rg x3 lp9 g rk pb Ag Q9 pd sl m9 lw c0 rt gr as9 hdL slL xb xc rL (by omega) (BdE.wp BdE.rfl hwp) (BdE.pt BdE.rfl hwp hps) (BdE.rko BdE.rfl hrk) (by omega) (by omega) hng hmq ht0 ⟨hv0.1, (by have z9 := hv0; omega)⟩ hrt hrv (by omega) (by omega) (by omega) (LpO.be BdE.rfl hlo) (EkA.be BdE.rfl (BtR.rfl 7 (by decide)) (BtR.rfl 11 (by decide)) hek) (OwC.be BdE.rfl hmq hdr0 hcO) (NaB.be BdE.rfl BeF.rfl hwp hps.2.1 hdr0 (BtR.rfl 11 (by decide)) hna) hen hao hst0.1 (by omega) (by omega) (by omega) (SkA.be BdE.rfl (BtR.rfl 11 (by decide)) hsk) hlp hrq (fun z9 => hrL (hst0.2.2.2.2.2.1 z9)) hlr hk1 (IhZ.lo ist) hO hl0) (gV pw_307 pw_308 pw_309 pw_63 pw_358) hV_X0_block qr9 0 hqr10 rfl rfl rfl (Nat.le_of_ble_eq_true rfl) dX0_tryStatement_72 ⟨(by show 0 + ((rE (g 2 q1) - rS (g 2 q1) - 2) + 1) ≤ ((rE (g 2 q) - rS (g 2 q)) + 1); omega), (by show 0 + (6 * (rE (g 2 q1) - rS (g 2 q1) - 2) + 6) ≤ (6 * (rE (g 2 q) - rS (g 2 q)) + 6); omega)⟩ ⟨(by show (5 * (n - 1) + 46) + 1 ≤ (5 * n + 46); omega), (by show 8 + (5 + 11) + (200 * (n - 1) + 1120) ≤ (200 * n + 1120); omega)⟩ (fun v8 u6 H locs hw7 hP hD hS => ?_) (fun ux ce9 q9 H9 locs9 hux hP9 hD9 hS9 hce hcv hcl => pb_out ux (ThQ.up (Thx.same (Thx.same (Thx.same (Thx.same (Thx.same (Thx.same (Thx.same (Thx.same (Thx.f Thx.rfl (by omega)) rfl) rfl) rfl) rfl) rfl) rfl) rfl) rfl) (show RhX (updR (updR (updR R 2 (.ref pq)) 3 (.ref mq)) 4 (va_rf lp9)) (updR (updR (updR (updR (updR (updR R 2 (.ref pq)) 3 (.ref mq)) 4 (va_rf lp9)) 2 (.ref pq)) 3 (.ref mq)) 4 (va_rf lp9)) from fun k9 hk9 => by unfold updR; simp only [show ¬ k9 = 1 by omega, show ¬ k9 = 2 by omega, show ¬ k9 = 3 by omega, show ¬ k9 = 4 by omega, if_false]) hux) hnt hlocks hce hcv hcl hP9 hD9 hS9 (by show 0 + ((rE (g 2 q1) - rS (g 2 q1) - 2) + 1) ≤ ((rE (g 2 q) - rS (g 2 q)) + 1); omega) (by show 0 + (6 * (rE (g 2 q1) - rS (g 2 q1) - 2) + 6) ≤ (6 * (rE (g 2 q) - rS (g 2 q)) + 6); omega))
  obtain ⟨w, K11, B12, cs13, as14, wt15, wf16, dp17, Ag18, rg19, gr20, ls21, Q22, pd23, xb24, xc25⟩ := u6
  obtain ⟨hw7, h26, h27, h28, h29, h30, h31, h32, h33, h34, h35, h36, h37, h38, h39, h40, h41, h42, hO⟩ := hw7
  replace h26 : SmW B B12 cs := h26
  replace h27 : BdE K K11 := h27
  replace h28 : BeF K K11 := h28
  replace h29 : BeL K K11 lp9 := h29
  replace h30 : Bth B B12 := h30
  replace h31 : BtR B B12 := h31
  replace h32 : cs ≤ cs13 ∧ cs13 + 4 ≤ cs + 2 * tlE g q1 := h32
  replace h33 : dp ≤ dp17 ∧ dp17 ≤ 71 := h33
  replace h34 : AsO as14 := h34
  replace h35 : VrS B B12 vr := h35
  replace h36 : gr ≤ gr20 ∧ rg19 ≤ 625 ∧ rg19 ≤ gr20 ∧ (rg19 = 625 ∨ rg19 = gr20) := h36
  replace h37 : EnV (B12 26) (B12 27) nd vr hd c0 sl := h37
  replace h38 : StW pb.1 pb.2.1 pb.2.2.1 pb.2.2.2 Ag Ag18 Q9 Q22 pd pd23 m9 dp17 lw cs cs13 as9 as14 hd hd sl sl gr gr20 (B12 16) (B12 17) (B12 18) (B12 19) [] := h38
  replace h39 : LpS K11 (B12 16) (B12 17) Ag18 pd23 lp9 lw cs13 hd sl hdL slL xb24 xc25 := h39
  replace h40 : PdS pd pd23 xb xb24 xc xc25 [] cs cs13 := h40
  replace h41 : RgQx B12 Q22 gr20 nd := h41
  replace h42 : LpR K11 lp9 rL := h42
  obtain rfl : v8 = none := hw7
  have hf43 : K11.1 pq = 7 := (BdE.T h27 hp1 (by decide))
  have hf44 : K11.2.2.1 18 pq = some (a 1) := (BdE.C h27 (by rw [hp1]; decide) 18).trans hp2
  have hf45 : K11.2.2.1 14 pq = some dr := (BdE.C h27 (by rw [hp1]; decide) 14).trans hp3
  have hf46 : K11.1 dr = 8 := (BdE.T h27 hp4 (by decide))
  have hf47 : K11.2.2.1 15 pq = some ml := (BdE.C h27 (by rw [hp1]; decide) 15).trans hp5
  have hf48 : K11.1 ml = 5 := (BdE.T h27 hp6 (by decide))
  have hf49 : K11.2.1 24 pq = (nI nd) := (BdE.I h27 (by rw [hp1]; decide) (by decide) (by decide)).trans hp8
  have hf50 : K11.1 q = 1 := (BdE.T h27 hqT (by decide))
  have hf51 : K11.1 mq = 3 := (BdE.T h27 hmq (by decide))
  have hf52 : K11.2.1 10 mq = (nI rt) := (BdE.I h27 (by rw [hmq]; decide) (by decide) (by decide)).trans hrt
  have hf53 : K11.2.2.1 0 q = some q1 := (BdE.C h27 (by rw [hqT]; decide) 0).trans hc0
  have hf54 : K11.1 q1 = 1 := (BdE.T h27 ht0 (by decide))
  have hf55 : K11.2.1 0 q1 = 21 := (BdE.I h27 (by rw [ht0]; decide) (by decide) (by decide)).trans hk1
  have hf56 : K11.2.2.1 2 q = none := (BdE.C h27 (by rw [hqT]; decide) 2).trans hc2
  have hf57 : K11.2.1 0 q = 32 := (BdE.I h27 (by rw [hqT]; decide) (by decide) (by decide)).trans hkd
  have hO : OKP G h0 a (upd (upd (upd (upd (upd (upd (upd (upd (upd (upd F 2 (nI sz)) 5 (nI cs13)) 6 (nI rg19)) 7 (nI hd)) 8 (nI dp17)) 12 (nI vr)) 13 as14) 14 wt15) 15 wf16) 16 ls21) (updR (updR (updR R 2 (.ref pq)) 3 (.ref mq)) 4 (va_rf lp9)) Z B12 J K11 w := hO.to rfl
  refine W.widen (k := (rE (g 2 q1) - rS (g 2 q1) - 2)) (n := (6 * (rE (g 2 q1) - rS (g 2 q1) - 2))) (by show 0 + (rE (g 2 q1) - rS (g 2 q1) - 2) ≤ (rE (g 2 q1) - rS (g 2 q1) - 2); omega) (by show 0 + (6 * (rE (g 2 q1) - rS (g 2 q1) - 2)) ≤ (6 * (rE (g 2 q1) - rS (g 2 q1) - 2)); omega) ?_
  refine W.eq (g2 := F0 m 75 ls []) rfl ?_
  have hbe58 := BdE.trans BdE.rfl h27
  have hbb59 : Bth B B12 := Bth.trans (show Thx (upd (upd (upd (upd (upd (upd (upd (upd F 2 (nI sz)) 5 (nI cs)) 6 (nI rg)) 7 (nI hd)) 8 (nI dp)) 12 (nI vr)) 13 as9) 16 ls9) (upd (upd (upd (upd (upd (upd (upd (upd (upd F 2 (nI sz)) 5 (nI cs)) 6 (nI rg)) 7 (nI hd)) 8 (nI dp)) 12 (nI vr)) 13 as9) 16 ls9) 16 x3) B B from (Thx.f Thx.rfl (by omega))).2 h30
  have hng60 : Nng (B12 18) := h30.2 hng
  have hsw61 : ∀ x9 : Nat, x9 < cs → (B12 16) x9 = B 16 x9 := fun x9 hx9 => ((h26 x9 (by omega)).1).trans ((fun _ _ => rfl) x9 hx9)
  have hsw62 : ∀ x9 : Nat, x9 < cs → (B12 17) x9 = B 17 x9 := fun x9 hx9 => ((h26 x9 (by omega)).2.1).trans ((fun _ _ => rfl) x9 hx9)
  have hsw63 : ∀ x9 : Nat, x9 < cs → (B12 18) x9 = B 18 x9 := fun x9 hx9 => ((h26 x9 (by omega)).2.2.1).trans ((fun _ _ => rfl) x9 hx9)
  have hsw64 : ∀ x9 : Nat, x9 < cs → (B12 19) x9 = B 19 x9 := fun x9 hx9 => ((h26 x9 (by omega)).2.2.2).trans ((fun _ _ => rfl) x9 hx9)
  have hbf65 := BeF.trans BeF.rfl h28 BdE.rfl
  have hbl67 : BeL K K11 lp9 := BeL.trans BeL.rfl h29 BdE.rfl
  have hbr66 : BtR B B12 := BtR.trans BtR.rfl h31
  have hvs68 : VrS B B12 vr := VrS.trans VrS.rfl h35 (by omega)
  have hst69 : StW pb.1 pb.2.1 pb.2.2.1 pb.2.2.2 Ag Ag18 Q9 Q22 pd pd23 m9 dp17 lw cs cs13 as9 as14 hd hd sl sl gr gr20 (B12 16) (B12 17) (B12 18) (B12 19) ([] : List Nat) := StW.seq hst0 (by omega) (fun x9 hx9 => ⟨(h26 x9 hx9).1, (h26 x9 hx9).2.1⟩) h38
  have hsn70 := hst69.1.2.2.2.1
  have hpd71 : PdS pd pd23 xb xb24 xc xc25 ([] : List Nat) cs cs13 := PdS.call (PdS.rfl (cs1 := cs)) h40 (by omega) (by omega)
  refine lv_aload_n hx hb dX0_tryStatement_75 rfl (lv_at hl 5 rfl) ?_
  refine c_get (v := .ref (a 2)) (C := RX0) (Tc := TX0) (N := 13) (ci := 0) hx hb hq pin_wsX00 hown hE hP hO 24 (sg_24 G h0 a _ _ _ _ _) rfl 1 (by decide) (hq _ pw_5) (fun _ h9 => h9) rfl dX0_tryStatement_76 ?_
  refine c_get (v := .int (nI cs13)) (C := RX1) (Tc := TX1) (N := 13) (ci := 1) hx hb hq pin_wsX10 hown hE hP hO 13 (sg_13 G h0 a _ _ _ _ _) rfl 4 (by decide) (hq _ pw_75) (fun _ h9 => h9) rfl dX0_tryStatement_79 ?_
  refine lv_istore (lv' := [(7, .int (nI cs13)), (6, .int (nI cs)), (5, .int as9), (4, .int (nI hd)), (3, .int 6), (2, .int 0), (0, .ref (a 4)), (1, .ref q)]) hx hb dX0_tryStatement_82 hl (by decide) rfl (fun ls hl => ?_)
  refine lv_aload_n hx hb dX0_tryStatement_84 rfl (lv_at hl 6 rfl) ?_
  refine c_get (v := .ref (a 2)) (C := RX0) (Tc := TX0) (N := 13) (ci := 0) hx hb hq pin_wsX00 hown hE hP hO 24 (sg_24 G h0 a _ _ _ _ _) rfl 1 (by decide) (hq _ pw_5) (fun _ h9 => h9) rfl dX0_tryStatement_85 ?_
  refine lv_iload_n hx hb dX0_tryStatement_88 rfl (lv_at hl 4 rfl) ?_
  refine lv_iconst (v := (-1)) hx hb dX0_tryStatement_89 (by decide) ?_
  refine lv_iload hx hb dX0_tryStatement_90 (lv_at hl 3 rfl) ?_
  have hO : OKW G h0 a (upd (upd (upd (upd (upd (upd (upd (upd (upd (upd (upd (upd F 2 (nI sz)) 5 (nI cs13)) 6 (nI rg19)) 7 (nI hd)) 8 (nI dp17)) 12 (nI vr)) 13 as14) 14 wt15) 15 wf16) 16 ls21) 5 (nI cs13)) 7 (nI hd)) (updR (updR (updR R 2 (.ref pq)) 3 (.ref mq)) 4 (va_rf lp9)) Z B12 J K11.1 (fun q99 x99 => x99 = rep G a K11 q99) w := hO.to rfl
  obtain ⟨_, qr75, hqr76⟩ := hO.2.1 13 _ (sg_13 G h0 a _ _ _ _ _)
  refine pc_V0 (G := G) (As := [.int 6, .int (-1), .int (nI hd)]) (rest := []) hx hb hml hown hq hE hX pX0_al hP hD hS hA hl.1 (Y_jump l G h0 a (upd (upd (upd (upd (upd (upd (upd (upd (upd (upd F 2 (nI sz)) 5 (nI cs13)) 6 (nI rg19)) 7 (nI hd)) 8 (nI dp17)) 12 (nI vr)) 13 as14) 14 wt15) 15 wf16) 16 ls21) (updR (updR (updR R 2 (.ref pq)) 3 (.ref mq)) 4 (va_rf lp9)) Z B12 J K11.1 (fun q99 x99 => x99 = rep G a K11 q99) w 6 (-1) (nI hd) cs13 hd (by omega) hO) (gV pw_197 pw_198 pw_199 pw_70 pw_132) hV_X1_jump qr75 1 hqr76 rfl rfl rfl (Nat.le_of_ble_eq_true rfl) dX0_tryStatement_92 ⟨(by show (rE (g 2 q1) - rS (g 2 q1) - 2) + 0 ≤ ((rE (g 2 q) - rS (g 2 q)) + 1); omega), (by show (6 * (rE (g 2 q1) - rS (g 2 q1) - 2)) + 0 ≤ (6 * (rE (g 2 q) - rS (g 2 q)) + 6); omega)⟩ ⟨(by show 3 + 1 ≤ (5 * n + 46); omega), (by show 8 + (4 + 11) + 83 ≤ (200 * n + 1120); omega)⟩ (fun v74 u72 H locs hw73 hP hD hS => ?_)
  obtain ⟨w, _⟩ := u72
  obtain ⟨hw73, hO⟩ := hw73
  obtain rfl : v74 = some (.int (nI cs13)) := hw73
  have hO : OKP G h0 a (upd (upd (upd (upd (upd (upd (upd (upd (upd (upd F 2 (nI sz)) 5 (nI (cs13 + 1))) 6 (nI rg19)) 7 (nI hd)) 8 (nI dp17)) 12 (nI vr)) 13 as14) 14 wt15) 15 wf16) 16 ls21) (updR (updR (updR R 2 (.ref pq)) 3 (.ref mq)) 4 (va_rf lp9)) Z (updA (updA (updA (updA B12 16 (upd ((B12 16)) cs13 6)) 17 (upd ((B12 17)) cs13 (-1))) 18 (upd ((B12 18)) cs13 (nI hd))) 19 (upd ((B12 19)) cs13 (nI hd))) J K11 w := hO.to rfl
  refine W.widen (k := (rE (g 2 q1) - rS (g 2 q1) - 2)) (n := (6 * (rE (g 2 q1) - rS (g 2 q1) - 2))) (by show (rE (g 2 q1) - rS (g 2 q1) - 2) + 0 ≤ (rE (g 2 q1) - rS (g 2 q1) - 2); omega) (by show (6 * (rE (g 2 q1) - rS (g 2 q1) - 2)) + 0 ≤ (6 * (rE (g 2 q1) - rS (g 2 q1) - 2)); omega) ?_
  refine W.eq (g2 := F0 m 95 ls [.int (nI cs13)]) rfl ?_
  have hsw77 : ∀ x9 : Nat, x9 < cs → (upd ((B12 16)) cs13 6) x9 = B 16 x9 := fun x9 hx9 => (if_neg (by omega)).trans (hsw61 x9 hx9)
  have hsw78 : ∀ x9 : Nat, x9 < cs → (upd ((B12 17)) cs13 (-1)) x9 = B 17 x9 := fun x9 hx9 => (if_neg (by omega)).trans (hsw62 x9 hx9)
  have hsw79 : ∀ x9 : Nat, x9 < cs → (upd ((B12 18)) cs13 (nI hd)) x9 = B 18 x9 := fun x9 hx9 => (if_neg (by omega)).trans (hsw63 x9 hx9)
  have hsw80 : ∀ x9 : Nat, x9 < cs → (upd ((B12 19)) cs13 (nI hd)) x9 = B 19 x9 := fun x9 hx9 => (if_neg (by omega)).trans (hsw64 x9 hx9)
  obtain ⟨Ag81, hst82, hag83⟩ : ∃ A5 : Nat → AS, StW pb.1 pb.2.1 pb.2.2.1 pb.2.2.2 Ag A5 Q9 Q22 pd (fun z => pd23 z ∨ z = cs13) m9 dp17 lw cs (cs13 + 1) as9 (-1) hd hd sl sl gr gr20 (upd ((B12 16)) cs13 6) (upd ((B12 17)) cs13 (-1)) (upd ((B12 18)) cs13 (nI hd)) (upd ((B12 19)) cs13 (nI hd)) ([] : List Nat) ∧ ∀ x9 : Nat, x9 ≤ cs13 → A5 x9 = Ag18 x9 := ⟨(upS Ag18 (cs13 + 1) (rcA (-1), hd, sl, ([] : List Nat))), StW.jmp (k := 6) hst69 (by show 0 ≤ 248; omega) (by decide) (fun z9 hz9 => ⟨fun h9 => Or.inl h9, fun h9 => h9.resolve_right (by omega)⟩) (Or.inr rfl) (fun z9 => absurd rfl z9), fun x9 hx9 => upS_ne (by omega)⟩
  have hlp84 : LpS K11 (upd ((B12 16)) cs13 6) (upd ((B12 17)) cs13 (-1)) Ag81 (fun z => pd23 z ∨ z = cs13) lp9 lw (cs13 + 1) hd sl hdL slL xb24 xc25 := LpS.same h39 (fun _ _ _ _ _ => rfl) (fun z9 hz9 => ⟨if_neg (by omega), if_neg (by omega), hag83 z9 (by omega)⟩) (fun _ h9 => Or.inl h9) (fun z9 h9 => h9.elim (fun h8 => Nat.lt_succ_of_lt (h39.1 z9 h8)) (fun h8 => by omega)) (by omega) ⟨Nat.le_refl _, fun _ _ => rfl⟩
  have hng85 : Nng (upd ((B12 18)) cs13 (nI hd)) := Nng.set hng60 (k := hd) (by omega)
  have hpd86 : PdS pd (fun z => pd23 z ∨ z = cs13) xb xb24 xc xc25 (cs13 :: ([] : List Nat)) cs (cs13 + 1) := PdS.jmp hpd71 (LpS.lt h39).1 (LpS.lt h39).2 (by omega)
  have hj87 : (upd ((B12 16)) cs13 6) cs13 = (nI 6) := if_pos rfl
  have hj88 : (upd ((B12 17)) cs13 (-1)) cs13 = ((-1) : Int32) := if_pos rfl
  have hj89 : (upd ((B12 18)) cs13 (nI hd)) cs13 = (nI hd) := if_pos rfl
  have hj90 : Ag81 cs13 = (rcA as14, hd, sl, ([] : List Nat)) := (hag83 cs13 (Nat.le_refl _)).trans hst69.1.1.2
  have hj91 : Ag81 (cs13 + 1) = (rcA (-1), hd, sl, ([] : List Nat)) := hst82.1.1.2
  have hai0 : AiL Ag81 (upd ((B12 16)) cs13 6) (upd ((B12 17)) cs13 (-1)) (fun z => pd23 z ∨ z = cs13) cs (cs13 + 1) := StW.ail (k := 6) hst69 hj87 ⟨by decide, by decide⟩ (fun x9 hx9 => ⟨hag83 x9 (by omega), if_neg (by omega), if_neg (by omega), ⟨fun h9 => h9.resolve_right (by omega), Or.inl⟩⟩)
  have hch0 : ChnJ (upd ((B12 17)) cs13 (-1)) (nI cs13) (cs13 :: ([] : List Nat)) := ChnJ.one hj88 (by omega)
  have hjw92 : LpJ (upd ((B12 16)) cs13 6) Ag81 (cs13 :: ([] : List Nat)) lw (cs13 + 1) hd sl as14 := LpJ.cons (cs := cs13 + 1) LpJ.nil ⟨by omega, by omega, Or.inl hj87, fun z9 => by rw [hj90] at z9 ⊢; exact ⟨ (rcA_of z9), Nat.le_refl _, (fun _ _ => rfl), rfl⟩⟩ (fun _ _ => ⟨rfl, rfl⟩) (by omega) (fun z9 => z9)
  have hb90 : AsO as14 ∧ (¬ as14 = -1 → ¬ as9 = -1) := ⟨h34, hst69.2.2.2.2.2.1⟩
  refine lv_istore (lv' := [(8, .int (nI cs13)), (7, .int (nI cs13)), (6, .int (nI cs)), (5, .int as9), (4, .int (nI hd)), (3, .int 6), (2, .int 0), (0, .ref (a 4)), (1, .ref q)]) hx hb dX0_tryStatement_95 hl (by decide) rfl (fun ls hl => ?_)
  refine lv_aload_n hx hb dX0_tryStatement_97 rfl (lv_at hl 7 rfl) ?_
  refine c_get (v := .int as14) (C := RX0) (Tc := TX0) (N := 13) (ci := 0) hx hb hq pin_wsX00 hown hE hP hO 24 (sg_24 G h0 a _ _ _ _ _) rfl 8 (by decide) (hq _ pw_55) (fun _ h9 => h9) rfl dX0_tryStatement_98 ?_
  refine lv_istore (lv' := [(9, .int as14), (8, .int (nI cs13)), (7, .int (nI cs13)), (6, .int (nI cs)), (5, .int as9), (4, .int (nI hd)), (3, .int 6), (2, .int 0), (0, .ref (a 4)), (1, .ref q)]) hx hb dX0_tryStatement_101 hl (by decide) rfl (fun ls hl => ?_)
  have loop_g : ∀ (n_g : Nat) (k2 : Nat) (o2 : Option Nat) (K2 : PK) (B2 : Nat → Nat → Int32) (cs2 : Nat) (as2 : Int32) (wt2 : Int32) (wf2 : Int32) (dp2 : Nat) (rg2 : Nat) (gr2 : Nat) (ls2 : Int32) (A2 : Nat → AS) (sl2 : Nat → Nat) (Q2 : RX) (pd2 : Nat → Prop) (xb2 : List Nat) (xc2 : List Nat) (t2 : Nat) (c2 : Nat) (e7 : Nat) (b8 : Int32) (b9 : Int32) (xs2 : List Nat) (H : Heap) (locs : List Loc) (ls : Array Slot) (w : va_W), k2 ≤ 1000000000000000000000001 → 1000000000000000000000001 + 1 ≤ k2 + n_g → (BdE K K2) → (BeF K K2) → (BeL K K2 lp9) → (BtR B B2) → (Bth B B2) → (Nng (B2 18)) → (SmW B B2 cs) → (VrS B B2 vr) → (AsO as2) → (dp ≤ dp2 ∧ dp2 ≤ 71) → (gr ≤ gr2 ∧ rg2 ≤ 625 ∧ rg2 ≤ gr2 ∧ (rg2 = 625 ∨ rg2 = gr2)) → (StW pb.1 pb.2.1 pb.2.2.1 pb.2.2.2 Ag A2 Q9 Q2 pd pd2 m9 dp2 lw cs cs2 as9 (-1) hd hd sl sl2 gr gr2 (B2 16) (B2 17) (B2 18) (B2 19) ([] : List Nat)) → (LpS (K2) (B2 16) (B2 17) (A2) (pd2) lp9 lw (cs2) hd (sl2) hdL slL (xb2) (xc2)) → (PdS pd pd2 xb xb2 xc xc2 xs2 cs cs2) → (RgQx B2 Q2 gr2 nd) → (LpR K2 lp9 rL) → (EnV (B2 26) (B2 27) nd vr hd c0 sl) → (AiL A2 (B2 16) (B2 17) pd2 cs cs2) → (ChnJ (B2 17) b8 xs2) → (LpJ (B2 16) A2 xs2 lw cs2 hd sl b9) → (AsO b9 ∧ (¬ b9 = -1 → ¬ as9 = -1)) → (MmO K2 g q o2 t2 k2) → (c2 + rS (g 2 q) ≤ t2 ∧ t2 ≤ rN (g 2 q)) → (cs ≤ e7 ∧ e7 < cs2 ∧ cs2 + 5 ≤ cs + 2 * (t2 - rS (g 2 q))) → va_P G.1 pCl w H → va_D A w → va_S A s.heap H locs → OKP G h0 a (upd (upd (upd (upd (upd (upd (upd (upd (upd (upd F 2 (nI sz)) 5 (nI cs2)) 6 (nI rg2)) 7 (nI hd)) 8 (nI dp2)) 12 (nI vr)) 13 as2) 14 wt2) 15 wf2) 16 ls2) (updR (updR (updR R 2 (.ref pq)) 3 (.ref mq)) 4 (va_rf lp9)) Z B2 J K2 w → lv_has ls 11 [(10, va_rf o2), (9, .int b9), (8, .int b8), (7, .int (nI e7)), (6, .int (nI cs)), (5, .int as9), (4, .int (nI hd)), (3, .int 6), (2, .int 0), (1, .ref q), (0, .ref (a 4))] → W p l e (headSpec (Cond.code yX0_tryStatement cX0_tryStatement 11 none :: pw) ({ frames := (5 * n + 46), cells := ((rE (g 2 q) - rS (g 2 q)) + 1), slots := (6 * (rE (g 2 q) - rS (g 2 q)) + 6), locals := (200 * n + 1120) } : Room)).room s m ([.ref (a 4), .ref q] : List Value).toArray below meth c H locs c2 (6 * c2) (vx_MQ below (pQn G A (fun (v : Option Value) (u : va_W × (PK × (Nat → Nat → Int32) × Nat × Int32 × Int32 × Int32 × Nat × (Nat → AS) × Nat × Nat × Int32 × RX × (Nat → Prop) × List Nat × List Nat)) => v = none ∧ (SmW B u.2.2.1 cs) ∧ (BdE K u.2.1) ∧ (BeF K u.2.1) ∧ (BeL K u.2.1 lp9) ∧ (Bth B u.2.2.1) ∧ (BtR B u.2.2.1) ∧ (cs ≤ u.2.2.2.1 ∧ u.2.2.2.1 + 1 ≤ cs + 2 * tlE g q) ∧ (dp ≤ u.2.2.2.2.2.2.2.1 ∧ u.2.2.2.2.2.2.2.1 ≤ 71) ∧ (AsO u.2.2.2.2.1) ∧ (VrS B u.2.2.1 vr) ∧ (gr ≤ u.2.2.2.2.2.2.2.2.2.2.1 ∧ u.2.2.2.2.2.2.2.2.2.1 ≤ 625 ∧ u.2.2.2.2.2.2.2.2.2.1 ≤ u.2.2.2.2.2.2.2.2.2.2.1 ∧ (u.2.2.2.2.2.2.2.2.2.1 = 625 ∨ u.2.2.2.2.2.2.2.2.2.1 = u.2.2.2.2.2.2.2.2.2.2.1)) ∧ (EnV (u.2.2.1 26) (u.2.2.1 27) nd vr hd c0 sl) ∧ (StW pb.1 pb.2.1 pb.2.2.1 pb.2.2.2 Ag u.2.2.2.2.2.2.2.2.1 Q9 u.2.2.2.2.2.2.2.2.2.2.2.2.1 pd u.2.2.2.2.2.2.2.2.2.2.2.2.2.1 m9 u.2.2.2.2.2.2.2.1 lw cs u.2.2.2.1 as9 u.2.2.2.2.1 hd hd sl sl gr u.2.2.2.2.2.2.2.2.2.2.1 (u.2.2.1 16) (u.2.2.1 17) (u.2.2.1 18) (u.2.2.1 19) []) ∧ (LpS u.2.1 (u.2.2.1 16) (u.2.2.1 17) u.2.2.2.2.2.2.2.2.1 u.2.2.2.2.2.2.2.2.2.2.2.2.2.1 lp9 lw u.2.2.2.1 hd sl hdL slL u.2.2.2.2.2.2.2.2.2.2.2.2.2.2.1 u.2.2.2.2.2.2.2.2.2.2.2.2.2.2.2) ∧ (PdS pd u.2.2.2.2.2.2.2.2.2.2.2.2.2.1 xb u.2.2.2.2.2.2.2.2.2.2.2.2.2.2.1 xc u.2.2.2.2.2.2.2.2.2.2.2.2.2.2.2 [] cs u.2.2.2.1) ∧ (RgQx u.2.2.1 u.2.2.2.2.2.2.2.2.2.2.2.2.1 u.2.2.2.2.2.2.2.2.2.2.1 nd) ∧ (LpR u.2.1 lp9 rL) ∧ (OKP G h0 a (upd (upd (upd (upd (upd (upd (upd (upd (upd (upd F 2 (nI sz)) 5 (nI u.2.2.2.1)) 6 (nI u.2.2.2.2.2.2.2.2.2.1)) 7 (nI hd)) 8 (nI u.2.2.2.2.2.2.2.1)) 12 (nI vr)) 13 u.2.2.2.2.1) 14 u.2.2.2.2.2.1) 15 u.2.2.2.2.2.2.1) 16 u.2.2.2.2.2.2.2.2.2.2.2.1) (updR (updR (updR R 2 (.ref pq)) 3 (.ref mq)) 4 (va_rf lp9)) Z u.2.2.1 J u.2.1 u.1)) (fun u => u.1) (fun (u : va_W × (PK × (Nat → Nat → Int32) × Nat × Int32 × Int32 × Int32 × Nat × (Nat → AS) × Nat × Nat × Int32 × RX × (Nat → Prop) × List Nat × List Nat)) => (rE (g 2 q) - rS (g 2 q))) (fun (u : va_W × (PK × (Nat → Nat → Int32) × Nat × Int32 × Int32 × Int32 × Nat × (Nat → AS) × Nat × Nat × Int32 × RX × (Nat → Prop) × List Nat × List Nat)) => (6 * (rE (g 2 q) - rS (g 2 q))))) (pXX G A (fun (u : va_W × (Nat → Int32) × (Nat → Value) × (Nat → Nat → Int32)) => ThQ G h0 a (upd (upd (upd (upd (upd (upd (upd (upd F 2 (nI sz)) 5 (nI cs)) 6 (nI rg)) 7 (nI hd)) 8 (nI dp)) 12 (nI vr)) 13 as9) 16 ls9) (updR (updR (updR R 2 (.ref pq)) 3 (.ref mq)) 4 (va_rf lp9)) Z B J u) (fun u => u.1)) ([.ref (a 4), .ref q] : List Value).toArray s ({ frames := (5 * n + 46), cells := ((rE (g 2 q) - rS (g 2 q)) + 1), slots := (6 * (rE (g 2 q) - rS (g 2 q)) + 6), locals := (200 * n + 1120) } : Room).cells ({ frames := (5 * n + 46), cells := ((rE (g 2 q) - rS (g 2 q)) + 1), slots := (6 * (rE (g 2 q) - rS (g 2 q)) + 6), locals := (200 * n + 1120) } : Room).slots A) (F0 m 109 ls []) := by
    intro n_g
    clear h32 h33 h36
    induction n_g with
    | zero => intro k2 o2 K2 B2 cs2 as2 wt2 wf2 dp2 rg2 gr2 ls2 A2 sl2 Q2 pd2 xb2 xc2 t2 c2 e7 b8 b9 xs2 H locs ls w hk_g hn_g; omega
    | succ n_g ih_g =>
      intro k2 o2 K2 B2 cs2 as2 wt2 wf2 dp2 rg2 gr2 ls2 A2 sl2 Q2 pd2 xb2 xc2 t2 c2 e7 b8 b9 xs2 H locs ls w hk_g hn_g hbe2 hbf2 hbl2 hbr2 hbb2 hng2 hsw2 hvs2 hao2 hdp2 hgr2 hst2 hlp2 hpd2 hrq2 hlr2 hen2 hai2 hch2 hj2 hb92 hmm2 hc29 hcs2 hP hD hS hO hl
      have hf93 : K2.1 pq = 7 := (BdE.T hbe2 hp1 (by decide))
      have hf94 : K2.2.2.1 18 pq = some (a 1) := (BdE.C hbe2 (by rw [hp1]; decide) 18).trans hp2
      have hf95 : K2.2.2.1 14 pq = some dr := (BdE.C hbe2 (by rw [hp1]; decide) 14).trans hp3
      have hf96 : K2.1 dr = 8 := (BdE.T hbe2 hp4 (by decide))
      have hf97 : K2.2.2.1 15 pq = some ml := (BdE.C hbe2 (by rw [hp1]; decide) 15).trans hp5
      have hf98 : K2.1 ml = 5 := (BdE.T hbe2 hp6 (by decide))
      have hf99 : K2.2.1 24 pq = (nI nd) := (BdE.I hbe2 (by rw [hp1]; decide) (by decide) (by decide)).trans hp8
      have hf100 : K2.1 q = 1 := (BdE.T hbe2 hqT (by decide))
      have hf101 : K2.1 mq = 3 := (BdE.T hbe2 hmq (by decide))
      have hf102 : K2.2.1 10 mq = (nI rt) := (BdE.I hbe2 (by rw [hmq]; decide) (by decide) (by decide)).trans hrt
      have hf103 : K2.2.2.1 0 q = some q1 := (BdE.C hbe2 (by rw [hqT]; decide) 0).trans hc0
      have hf104 : K2.1 q1 = 1 := (BdE.T hbe2 ht0 (by decide))
      have hf105 : K2.2.1 0 q1 = 21 := (BdE.I hbe2 (by rw [ht0]; decide) (by decide) (by decide)).trans hk1
      have hf106 : K2.2.2.1 2 q = none := (BdE.C hbe2 (by rw [hqT]; decide) 2).trans hc2
      have hf107 : K2.2.1 0 q = 32 := (BdE.I hbe2 (by rw [hqT]; decide) (by decide) (by decide)).trans hkd
      have hsn2 := hst2.1.2.2.2.1
      rcases o2 with _ | x9
      · have hl : lv_has ls 11 [(10, .null), (9, .int b9), (8, .int b8), (7, .int (nI e7)), (6, .int (nI cs)), (5, .int as9), (4, .int (nI hd)), (3, .int 6), (2, .int 0), (1, .ref q), (0, .ref (a 4))] := hl
        refine W.eq (g2 := F0 m 109 ls []) rfl ?_
        refine lv_aloadN hx hb dX0_tryStatement_109 (lv_at hl 0 rfl) ?_
        refine lv_ifnullN (tgt := 184) hx hb dX0_tryStatement_111 (by decide) ?_
        refine lv_aload_n hx hb dX0_tryStatement_184 rfl (lv_at hl 10 rfl) ?_
        refine lv_dup hx hb dX0_tryStatement_185 rfl ?_
        refine c_get (v := .int ls2) (C := RX0) (Tc := TX0) (N := 13) (ci := 0) hx hb hq pin_wsX00 hown hE hP hO 24 (sg_24 G h0 a _ _ _ _ _) rfl 12 (by decide) (hq _ pw_74) (fun _ h9 => h9) rfl dX0_tryStatement_186 ?_
        refine lv_iload_n hx hb dX0_tryStatement_189 rfl (lv_at hl 8 rfl) ?_
        refine lv_if_eq (tgt := 197) hx hb dX0_tryStatement_190 (by decide) (fun c108 => ?_) (fun c108 => absurd c108 (by decide))
        refine lv_iconst (v := 0) hx hb dX0_tryStatement_197 (by decide) ?_
        refine lv_isub hx hb dX0_tryStatement_198 ?_
        refine lv_topi (fun x109 e110 => ?_)
        refine c_put (v := .int x109) (ty := .int) (C := RX0) (Tc := TX0) (N := 13) (ci := 0) hx hb hq pin_wsX00 tyX0 tyX0_ok nmX0 hown hE hP hD hS hO 24 (sg_24 G h0 a _ _ _ _ _) rfl 12 (by decide) (hq _ pw_74) (fun _ h9 => h9) rfl (by decide +kernel) rfl rfl (Nat.le_of_ble_eq_true rfl) (sf_16 G h0 a _ _ _ _ _ x109) dX0_tryStatement_199 (fun H locs w hP hD hS hO => ?_)
        refine lv_aload_n hx hb dX0_tryStatement_202 rfl (lv_at hl 10 rfl) ?_
        refine c_get (v := .ref (a 2)) (C := RX0) (Tc := TX0) (N := 13) (ci := 0) hx hb hq pin_wsX00 hown hE hP hO 24 (sg_24 G h0 a _ _ _ _ _) rfl 1 (by decide) (hq _ pw_5) (fun _ h9 => h9) rfl dX0_tryStatement_203 ?_
        refine lv_iload hx hb dX0_tryStatement_206 (lv_at hl 2 rfl) ?_
        have hO : OKW G h0 a (upd (upd (upd (upd (upd (upd (upd (upd (upd (upd (upd F 2 (nI sz)) 5 (nI cs2)) 6 (nI rg2)) 7 (nI hd)) 8 (nI dp2)) 12 (nI vr)) 13 as2) 14 wt2) 15 wf2) 16 x109) 5 (nI cs2)) (updR (updR (updR R 2 (.ref pq)) 3 (.ref mq)) 4 (va_rf lp9)) Z B2 J K2.1 (fun q99 x99 => x99 = rep G a K2 q99) w := hO.to rfl
        obtain ⟨_, qr114, hqr115⟩ := hO.2.1 13 _ (sg_13 G h0 a _ _ _ _ _)
        refine pc_V0 (G := G) (As := [.int b8]) (rest := []) hx hb hml hown hq hE hX pX0_al hP hD hS hA hl.1 (Y_land l G h0 a (upd (upd (upd (upd (upd (upd (upd (upd (upd (upd F 2 (nI sz)) 5 (nI cs2)) 6 (nI rg2)) 7 (nI hd)) 8 (nI dp2)) 12 (nI vr)) 13 as2) 14 wt2) 15 wf2) 16 x109) (updR (updR (updR R 2 (.ref pq)) 3 (.ref mq)) 4 (va_rf lp9)) Z B2 J K2.1 (fun q99 x99 => x99 = rep G a K2 q99) w b8 cs2 xs2 (by omega) hch2 (fun y9 hy9 => (PdS.js hpd2 y9 hy9).2.1) hO) (gV pw_200 pw_201 pw_202 pw_70 pw_134) hV_X1_land qr114 1 hqr115 rfl rfl rfl (Nat.le_of_ble_eq_true rfl) dX0_tryStatement_208 ⟨(by show c2 + 0 ≤ ((rE (g 2 q) - rS (g 2 q)) + 1); omega), (by show (6 * c2) + 0 ≤ (6 * (rE (g 2 q) - rS (g 2 q)) + 6); omega)⟩ ⟨(by show 2 + 1 ≤ (5 * n + 46); omega), (by show 8 + (5 + 11) + 60 ≤ (200 * n + 1120); omega)⟩ (fun v113 u111 H locs hw112 hP hD hS => ?_)
        obtain ⟨w, _⟩ := u111
        obtain ⟨hw112, hO⟩ := hw112
        obtain rfl : v113 = none := hw112
        have hO : OKP G h0 a (upd (upd (upd (upd (upd (upd (upd (upd (upd (upd F 2 (nI sz)) 5 (nI cs2)) 6 (nI rg2)) 7 (nI hd)) 8 (nI dp2)) 12 (nI vr)) 13 as2) 14 wt2) 15 wf2) 16 x109) (updR (updR (updR R 2 (.ref pq)) 3 (.ref mq)) 4 (va_rf lp9)) Z (updA B2 17 (aim ((B2 17)) xs2 cs2)) J K2 w := hO.to rfl
        refine W.widen (k := c2) (n := (6 * c2)) (by show c2 + 0 ≤ c2; omega) (by show (6 * c2) + 0 ≤ (6 * c2); omega) ?_
        refine W.eq (g2 := F0 m 211 ls []) rfl ?_
        have hsw116 : ∀ x9 : Nat, x9 < cs → (aim ((B2 17)) xs2 cs2) x9 = B 17 x9 := fun x9 hx9 => (aim_no (fun q9 => by have e9 := (fun z9 hz9 => (PdS.js hpd2 z9 hz9).1) x9 q9; omega)).trans ((fun x9 hx9 => (hsw2 x9 hx9).2.1) x9 hx9)
        obtain ⟨Ag117, hst118, hag119⟩ : ∃ A5 : Nat → AS, StW pb.1 pb.2.1 pb.2.2.1 pb.2.2.2 Ag A5 Q9 Q2 pd (pdm pd2 xs2) m9 dp2 lw cs cs2 as9 b9 hd hd sl sl gr gr2 (B2 16) (aim ((B2 17)) xs2 cs2) (B2 18) (B2 19) ([] : List Nat) ∧ ∀ x9 : Nat, x9 < cs2 → A5 x9 = A2 x9 := ⟨(upS A2 cs2 (rcA b9, hd, sl, ([] : List Nat))), StW.lnd (bs := b9) hst2 (fun z9 hz9 => (PdS.js hpd2 z9 hz9).2.2) hj2 (fun z9 => z9) (fun z9 => absurd rfl z9) (fun z9 hz9 => (PdS.js hpd2 z9 hz9).1) ⟨by omega, by omega⟩ hb92.2 hwfa (by omega), fun x9 hx9 => upS_ne (by omega)⟩
        have hen120 := EnV.back hen hvs2
        have hlp121 : LpS K2 (B2 16) (aim ((B2 17)) xs2 cs2) Ag117 (pdm pd2 xs2) lp9 lw cs2 hd sl hdL slL xb2 xc2 := LpS.same (LpS.to (LpS.land (b := (rcA b9, hd, sl, ([] : List Nat))) (xs := xs2) hlp2 (LpS.dis hpd2 (fun _ hz9 => hz9))) hlp) (fun _ _ _ _ _ => rfl) (fun z9 hz9 => ⟨rfl, rfl, (hag119 z9 hz9).trans (upS_ne (by omega)).symm⟩) (fun _ h9 => h9) (fun z9 h9 => hlp2.1 z9 h9.1) (Nat.le_refl _) ⟨Nat.le_refl _, fun _ _ => rfl⟩
        have hpd122 : PdS pd (pdm pd2 xs2) xb xb2 xc xc2 ([] : List Nat) cs cs2 := PdS.all hpd2 hlp.1
        refine lv_aload_n hx hb dX0_tryStatement_211 rfl (lv_at hl 10 rfl) ?_
        refine lv_iload hx hb dX0_tryStatement_212 (lv_at hl 1 rfl) ?_
        refine c_put (v := .int b9) (ty := .int) (C := RX0) (Tc := TX0) (N := 13) (ci := 0) hx hb hq pin_wsX00 tyX0 tyX0_ok nmX0 hown hE hP hD hS hO 24 (sg_24 G h0 a _ _ _ _ _) rfl 8 (by decide) (hq _ pw_55) (fun _ h9 => h9) rfl (by decide +kernel) rfl rfl (Nat.le_of_ble_eq_true rfl) (sf_13 G h0 a _ _ _ _ _ b9) dX0_tryStatement_214 (fun H locs w hP hD hS hO => ?_)
        refine lv_iload_n hx hb dX0_tryStatement_217 rfl (lv_at hl 8 rfl) ?_
        refine lv_if_eq (tgt := 267) hx hb dX0_tryStatement_218 (by decide) (fun c123 => ?_) (fun c123 => absurd c123 (by decide))
        refine W_size (fun hz1 hz2 => ?_)
        refine vx_ret ?_
        have hz124 : SmW B (updA B2 17 (aim ((B2 17)) xs2 cs2)) cs := (fun x9 hx9 => ⟨(fun x9 hx9 => (hsw2 x9 hx9).1) x9 hx9, hsw116 x9 hx9, (fun x9 hx9 => (hsw2 x9 hx9).2.2.1) x9 hx9, (fun x9 hx9 => (hsw2 x9 hx9).2.2.2) x9 hx9⟩)
        have hz125 : BdE K K2 := hbe2
        have hz126 : BeF K K2 := hbf2
        have hz127 : BeL K K2 lp9 := hbl2
        have hz128 : Bth B (updA B2 17 (aim ((B2 17)) xs2 cs2)) := (show Thx (upd (upd (upd (upd (upd (upd (upd (upd F 2 (nI sz)) 5 (nI cs)) 6 (nI rg)) 7 (nI hd)) 8 (nI dp)) 12 (nI vr)) 13 as9) 16 ls9) (upd (upd (upd (upd (upd (upd (upd (upd (upd (upd (upd (upd (upd (upd (upd F 2 (nI sz)) 5 (nI cs)) 6 (nI rg)) 7 (nI hd)) 8 (nI dp)) 12 (nI vr)) 13 as9) 16 ls9) 5 (nI cs2)) 6 (nI rg2)) 8 (nI dp2)) 13 b9) 14 wt2) 15 wf2) 16 x109) B (updA B2 17 (aim ((B2 17)) xs2 cs2)) from (Thx.b (Thx.f (Thx.f (Thx.f (Thx.f (Thx.f (Thx.f (Thx.f (Bth.thx hbb2) (by omega)) (by omega)) (by omega)) (by omega)) (by omega)) (by omega)) (by omega)) (by omega) (by decide))).2
        have hz129 : BtR B (updA B2 17 (aim ((B2 17)) xs2 cs2)) := (BtR.up hbr2 (by omega))
        have hz130 : cs ≤ cs2 ∧ cs2 + 1 ≤ cs + 2 * tlE g q := (by omega)
        have hz131 : dp ≤ dp2 ∧ dp2 ≤ 71 := (by omega)
        have hz132 : AsO b9 := hb92.1
        have hz133 : VrS B (updA B2 17 (aim ((B2 17)) xs2 cs2)) vr := hvs2
        have hz134 : gr ≤ gr2 ∧ rg2 ≤ 625 ∧ rg2 ≤ gr2 ∧ (rg2 = 625 ∨ rg2 = gr2) := (by omega)
        have hz135 : EnV ((updA B2 17 (aim ((B2 17)) xs2 cs2)) 26) ((updA B2 17 (aim ((B2 17)) xs2 cs2)) 27) nd vr hd c0 sl := hen120
        have hz136 : StW pb.1 pb.2.1 pb.2.2.1 pb.2.2.2 Ag Ag117 Q9 Q2 pd (pdm pd2 xs2) m9 dp2 lw cs cs2 as9 b9 hd hd sl sl gr gr2 ((updA B2 17 (aim ((B2 17)) xs2 cs2)) 16) ((updA B2 17 (aim ((B2 17)) xs2 cs2)) 17) ((updA B2 17 (aim ((B2 17)) xs2 cs2)) 18) ((updA B2 17 (aim ((B2 17)) xs2 cs2)) 19) [] := hst118
        have hz137 : LpS K2 ((updA B2 17 (aim ((B2 17)) xs2 cs2)) 16) ((updA B2 17 (aim ((B2 17)) xs2 cs2)) 17) Ag117 (pdm pd2 xs2) lp9 lw cs2 hd sl hdL slL xb2 xc2 := hlp121
        have hz138 : PdS pd (pdm pd2 xs2) xb xb2 xc xc2 [] cs cs2 := hpd122
        have hz139 : RgQx (updA B2 17 (aim ((B2 17)) xs2 cs2)) Q2 gr2 nd := hrq2
        have hz140 : LpR K2 lp9 rL := hlr2
        have hO : OKP G h0 a (upd (upd (upd (upd (upd (upd (upd (upd (upd (upd F 2 (nI sz)) 5 (nI cs2)) 6 (nI rg2)) 7 (nI hd)) 8 (nI dp2)) 12 (nI vr)) 13 b9) 14 wt2) 15 wf2) 16 x109) (updR (updR (updR R 2 (.ref pq)) 3 (.ref mq)) 4 (va_rf lp9)) Z (updA B2 17 (aim ((B2 17)) xs2 cs2)) J K2 w := hO.to rfl
        refine W.widen (k := ((rE (g 2 q) - rS (g 2 q)) + 1)) (n := (6 * (rE (g 2 q) - rS (g 2 q)) + 6)) (by omega) (by omega) ?_
        have hzz1 : H.size ≤ s.heap.size + ((rE (g 2 q) - rS (g 2 q))) := (by have z : c2 ≤ (rE (g 2 q) - rS (g 2 q)) := (by omega); omega)
        have hzz2 : hSl H ≤ hSl s.heap + ((6 * (rE (g 2 q) - rS (g 2 q)))) := (by have z : (6 * c2) ≤ (6 * (rE (g 2 q) - rS (g 2 q))) := (by omega); omega)
        exact W.vret hx hb hr (fun t99 ht99 hW99 => ⟨⟨_, (w, (K2, (updA B2 17 (aim ((B2 17)) xs2 cs2)), cs2, b9, wt2, wf2, dp2, Ag117, rg2, gr2, x109, Q2, (pdm pd2 xs2), xb2, xc2)), rfl, ⟨rfl, hz124, hz125, hz126, hz127, hz128, hz129, hz130, hz131, hz132, hz133, hz134, hz135, hz136, hz137, hz138, hz139, hz140, hO⟩, by rw [ht99]; exact hP, hD, by rw [ht99]; exact hzz1, by rw [ht99]; exact hzz2⟩, hS.F ht99⟩) hS.2.2 dX0_tryStatement_267
      · have hl : lv_has ls 11 [(10, .ref x9), (9, .int b9), (8, .int b8), (7, .int (nI e7)), (6, .int (nI cs)), (5, .int as9), (4, .int (nI hd)), (3, .int 6), (2, .int 0), (1, .ref q), (0, .ref (a 4))] := hl
        refine W.eq (g2 := F0 m 109 ls []) rfl ?_
        have hxd := hmm2 x9 rfl
        have hxT := hxd.1
        have hxv : 1 ≤ g 0 x9 ∧ g 0 x9 + 1 ≤ n := ⟨hxd.2.1, (by have z := hxd.2.2.1; omega)⟩
        have hxe := MmO.end32 (BdE.wp hbe2 hwp).1 hqL.1 hf107 hxT hxd.2.1 hxd.2.2.2.1
        have hxe1 : rE (g 2 x9) ≤ rN (g 2 q) ∧ rS (g 2 x9) ≤ rE (g 2 x9) ∧ g 2 x9 ≤ 1000000000000000000000000 := ⟨hxe.1, hxe.2.1, hxe.2.2.1⟩
        have hxt := hxd.2.2.2.2
        have htx : tlE g x9 = rE (g 2 x9) - rS (g 2 x9) := rfl
        have hxn := hsb x9 (hbe2.old1 hxT) hxd.2.1 hxd.2.2.2.1
        have hxk := hxe.2.2.2
        have hxw := (BdE.wp hbe2 hwp).1 x9 hxT hxd.2.1
        obtain ⟨xk1, hxb0, hxbT, hxbl⟩ := NdO.ch hxw (f := 0) (by decide) (hxw.1.1 (by rw [hxk]; decide))
        have hxkv : 1 ≤ g 0 xk1 ∧ g 0 xk1 + 1 ≤ n - 1 := ⟨hxbl.1, (by have z := hxbl.2; omega)⟩
        have hskx := (SkA.be hbe2 (hbr2 11 (by decide)) hsk x9 hxT hxd.2.1).2.2.2.2.2.2.2.2.2.1 hxk
        obtain ⟨fx9, hfx9⟩ : ∃ z : Int32, K2.2.1 2 x9 = z := ⟨_, rfl⟩
        refine lv_aload hx hb dX0_tryStatement_109 (lv_at hl 0 rfl) ?_
        refine lv_ifnull hx hb dX0_tryStatement_111 ?_
        refine lv_aload_n hx hb dX0_tryStatement_114 rfl (lv_at hl 10 rfl) ?_
        refine c_get (v := .ref (a 2)) (C := RX0) (Tc := TX0) (N := 13) (ci := 0) hx hb hq pin_wsX00 hown hE hP hO 24 (sg_24 G h0 a _ _ _ _ _) rfl 1 (by decide) (hq _ pw_5) (fun _ h9 => h9) rfl dX0_tryStatement_115 ?_
        refine lv_iload hx hb dX0_tryStatement_118 (lv_at hl 4 rfl) ?_
        refine lv_iload hx hb dX0_tryStatement_120 (lv_at hl 3 rfl) ?_
        refine lv_aload_n hx hb dX0_tryStatement_122 rfl (lv_at hl 10 rfl) ?_
        refine c_get (v := .ref (a 1)) (C := RX0) (Tc := TX0) (N := 13) (ci := 0) hx hb hq pin_wsX00 hown hE hP hO 24 (sg_24 G h0 a _ _ _ _ _) rfl 0 (by decide) (hq _ pw_4) (fun _ h9 => h9) rfl dX0_tryStatement_123 ?_
        refine lv_aload hx hb dX0_tryStatement_126 (lv_at hl 0 rfl) ?_
        refine p_get (v := .int fx9) (C := RX7) (Tc := TX7) (N := 11) (ci := 13) hx hb hq pin_wsX70 hown hE hP hO (by rw [hxT]; decide) (rep_1 hxT) rfl 2 (by decide) (hq _ pw_82) (fun _ h9 => h9) (congrArg (fun z => some (Value.int z)) hfx9) dX0_tryStatement_128 ?_
        have hO : OKW G h0 a (upd (upd (upd (upd (upd (upd (upd (upd (upd (upd (upd F 2 (nI sz)) 5 (nI cs2)) 6 (nI rg2)) 7 (nI hd)) 8 (nI dp2)) 12 (nI vr)) 13 as2) 14 wt2) 15 wf2) 16 ls2) 2 (nI sz)) (updR (updR (updR R 2 (.ref pq)) 3 (.ref mq)) 4 (va_rf lp9)) Z B2 J K2.1 (fun q99 x99 => x99 = rep G a K2 q99) w := hO.to rfl
        obtain ⟨_, qr144, hqr145⟩ := hO.2.1 2 _ (sg_2 G h0 a _ _ _ _ _)
        refine pc_V0 (G := G) (As := [.int fx9]) (rest := [.int (nI e7), .int (nI cs), .ref (a 2)]) hx hb hml hown hq hE hX pX0_al hP hD hS hA hl.1 (Y_typeAt l G h0 a (upd (upd (upd (upd (upd (upd (upd (upd (upd (upd F 2 (nI sz)) 5 (nI cs2)) 6 (nI rg2)) 7 (nI hd)) 8 (nI dp2)) 12 (nI vr)) 13 as2) 14 wt2) 15 wf2) 16 ls2) (updR (updR (updR R 2 (.ref pq)) 3 (.ref mq)) 4 (va_rf lp9)) Z B2 J K2.1 (fun q99 x99 => x99 = rep G a K2 q99) w fx9 sz nd (by omega) (NaB.be hbe2 hbf2 hwp hps.2.1 hdr0 (hbr2 11 (by decide)) hna).1.2.1 hO) (gV pw_92 pw_93 pw_94 pw_59 pw_36) hV_X10_typeAt qr144 7 hqr145 rfl rfl rfl (Nat.le_of_ble_eq_true rfl) dX0_tryStatement_131 ⟨(by show c2 + 0 ≤ ((rE (g 2 q) - rS (g 2 q)) + 1); omega), (by show (6 * c2) + 0 ≤ (6 * (rE (g 2 q) - rS (g 2 q)) + 6); omega)⟩ ⟨(by show 2 + 1 ≤ (5 * n + 46); omega), (by show 8 + (2 + 11) + 60 ≤ (200 * n + 1120); omega)⟩ (fun v143 u141 H locs hw142 hP hD hS => ?_)
        obtain ⟨w, _⟩ := u141
        obtain ⟨hw142, hO⟩ := hw142
        obtain rfl : v143 = some (.int (nI (tyN ((B2 11)) sz fx9))) := hw142
        have hO : OKP G h0 a (upd (upd (upd (upd (upd (upd (upd (upd (upd (upd F 2 (nI sz)) 5 (nI cs2)) 6 (nI rg2)) 7 (nI hd)) 8 (nI dp2)) 12 (nI vr)) 13 as2) 14 wt2) 15 wf2) 16 ls2) (updR (updR (updR R 2 (.ref pq)) 3 (.ref mq)) 4 (va_rf lp9)) Z B2 J K2 w := hO.to rfl
        refine W.widen (k := c2) (n := (6 * c2)) (by show c2 + 0 ≤ c2; omega) (by show (6 * c2) + 0 ≤ (6 * c2); omega) ?_
        refine W.eq (g2 := F0 m 134 ls [.int (nI (tyN ((B2 11)) sz fx9)), .int (nI e7), .int (nI cs), .ref (a 2)]) rfl ?_
        obtain ⟨ty146, hty146, hvty146⟩ : ∃ z : Nat, tyN (B2 11) sz fx9 = z ∧ TyV nd z := ⟨_, rfl, ((NaB.be hbe2 hbf2 hwp hps.2.1 hdr0 (hbr2 11 (by decide)) hna).1.2.1).V (by omega)⟩
        rw [hty146]
        have hlty146 := (hvty146).lt hna.1.1
        have htn9 : ty146 < nd := by rw [← hty146, ← hfx9]; exact hskx.1
        refine lv_iload hx hb dX0_tryStatement_134 (lv_at hl 6 rfl) ?_
        have hO : OKW G h0 a (upd (upd (upd (upd (upd (upd (upd (upd (upd (upd (upd (upd F 2 (nI sz)) 5 (nI cs2)) 6 (nI rg2)) 7 (nI hd)) 8 (nI dp2)) 12 (nI vr)) 13 as2) 14 wt2) 15 wf2) 16 ls2) 5 (nI cs2)) 6 (nI rg2)) (updR (updR (updR R 2 (.ref pq)) 3 (.ref mq)) 4 (va_rf lp9)) Z B2 J K2.1 (fun q99 x99 => x99 = rep G a K2 q99) w := hO.to rfl
        obtain ⟨_, qr150, hqr151⟩ := hO.2.1 13 _ (sg_13 G h0 a _ _ _ _ _)
        refine pc_V0 (G := G) (As := [.int (nI cs), .int (nI e7), .int (nI ty146), .int (nI hd)]) (rest := []) hx hb hml hown hq hE hX pX0_al hP hD hS hA hl.1 (Y_addReg l G h0 a (upd (upd (upd (upd (upd (upd (upd (upd (upd (upd F 2 (nI sz)) 5 (nI cs2)) 6 (nI rg2)) 7 (nI hd)) 8 (nI dp2)) 12 (nI vr)) 13 as2) 14 wt2) 15 wf2) 16 ls2) (updR (updR (updR R 2 (.ref pq)) 3 (.ref mq)) 4 (va_rf lp9)) Z B2 J K2.1 (fun q99 x99 => x99 = rep G a K2 q99) w cs e7 hd rg2 gr2 cs2 nd (nI ty146) Q2 (by omega) hrq2 (by omega) (Or.inr ⟨ty146, htn9, rfl⟩) hO) (gV pw_349 pw_350 pw_351 pw_70 pw_294) hV_X1_addRegion qr150 1 hqr151 rfl rfl rfl (Nat.le_of_ble_eq_true rfl) dX0_tryStatement_136 ⟨(by show c2 + 0 ≤ ((rE (g 2 q) - rS (g 2 q)) + 1); omega), (by show (6 * c2) + 0 ≤ (6 * (rE (g 2 q) - rS (g 2 q)) + 6); omega)⟩ ⟨(by show 2 + 1 ≤ (5 * n + 46); omega), (by show 8 + (5 + 11) + 60 ≤ (200 * n + 1120); omega)⟩ (fun v149 u147 H locs hw148 hP hD hS => ?_)
        obtain ⟨w, rg152, f153, f154, f155, f156, f157⟩ := u147
        obtain ⟨hw148, h158, h159, hO⟩ := hw148
        replace h158 : RgQx (updA (updA (updA (updA (updA B2 (20) f153) (21) f154) (22) f155) (23) f156) (24) f157) (upQx Q2 gr2 cs e7 cs2 hd (nI ty146) 0) (gr2 + 1) nd := h158
        replace h159 : rg152 ≤ 625 ∧ rg152 ≤ gr2 + 1 ∧ (rg152 = 625 ∨ rg152 = gr2 + 1) := h159
        obtain rfl : v149 = none := hw148
        have hO : OKP G h0 a (upd (upd (upd (upd (upd (upd (upd (upd (upd (upd F 2 (nI sz)) 5 (nI cs2)) 6 (nI rg152)) 7 (nI hd)) 8 (nI dp2)) 12 (nI vr)) 13 as2) 14 wt2) 15 wf2) 16 ls2) (updR (updR (updR R 2 (.ref pq)) 3 (.ref mq)) 4 (va_rf lp9)) Z (updA (updA (updA (updA (updA B2 20 f153) 21 f154) 22 f155) 23 f156) 24 f157) J K2 w := hO.to rfl
        refine W.widen (k := c2) (n := (6 * c2)) (by show c2 + 0 ≤ c2; omega) (by show (6 * c2) + 0 ≤ (6 * c2); omega) ?_
        refine W.eq (g2 := F0 m 139 ls []) rfl ?_
        have hrq160 : RgQx (updA (updA (updA (updA (updA B2 20 f153) 21 f154) 22 f155) 23 f156) 24 f157) (upQx Q2 gr2 cs e7 cs2 hd (nI ty146) 0) (gr2 + 1) nd := h158
        have hlp161 : LpS K2 (B2 16) (B2 17) A2 pd2 lp9 lw cs2 hd sl hdL slL xb2 xc2 := LpS.to hlp2 hlp
        refine lv_aload_n hx hb dX0_tryStatement_139 rfl (lv_at hl 10 rfl) ?_
        refine lv_iload hx hb dX0_tryStatement_140 (lv_at hl 5 rfl) ?_
        refine c_put (v := .int as9) (ty := .int) (C := RX0) (Tc := TX0) (N := 13) (ci := 0) hx hb hq pin_wsX00 tyX0 tyX0_ok nmX0 hown hE hP hD hS hO 24 (sg_24 G h0 a _ _ _ _ _) rfl 8 (by decide) (hq _ pw_55) (fun _ h9 => h9) rfl (by decide +kernel) rfl rfl (Nat.le_of_ble_eq_true rfl) (sf_13 G h0 a _ _ _ _ _ as9) dX0_tryStatement_142 (fun H locs w hP hD hS hO => ?_)
        refine lv_aload_n hx hb dX0_tryStatement_145 rfl (lv_at hl 10 rfl) ?_
        refine lv_aload hx hb dX0_tryStatement_146 (lv_at hl 0 rfl) ?_
        have htl162 : tlE g x9 = rE (g 2 x9) - rS (g 2 x9) := rfl
        have hO : OKP G h0 a (upd (upd (upd (upd (upd (upd (upd (upd (upd (upd (upd (upd (upd (upd (upd (upd (upd (upd (upd (upd (upd (upd F 2 (nI sz)) 5 (nI cs)) 6 (nI rg)) 7 (nI hd)) 8 (nI dp)) 12 (nI vr)) 13 as9) 16 ls9) 5 (nI cs2)) 6 (nI rg152)) 8 (nI dp2)) 14 wt2) 15 wf2) 16 ls2) 2 (nI sz)) 5 (nI cs2)) 6 (nI rg152)) 7 (nI hd)) 8 (nI dp2)) 12 (nI vr)) 13 as9) 16 ls2) (updR (updR (updR (updR (updR (updR R 2 (.ref pq)) 3 (.ref mq)) 4 (va_rf lp9)) 2 (.ref pq)) 3 (.ref mq)) 4 (va_rf lp9)) Z (updA (updA (updA (updA (updA B2 20 f153) 21 f154) 22 f155) 23 f156) 24 f157) J K2 w := hO.to rfl
        obtain ⟨_, qr166, hqr167⟩ := hO.2.1 24 _ (sg_24 G h0 a _ _ _ _ _)
        refine pn_V0 (G := G) (As := [.ref x9]) (rest := []) hx hb hml hown hq hE hX pX0_al hP hD hS hA hl.1 (Y_catch l G h0 a (upd (upd (upd (upd (upd (upd (upd (upd (upd (upd (upd (upd (upd (upd F 2 (nI sz)) 5 (nI cs)) 6 (nI rg)) 7 (nI hd)) 8 (nI dp)) 12 (nI vr)) 13 as9) 16 ls9) 5 (nI cs2)) 6 (nI rg152)) 8 (nI dp2)) 14 wt2) 15 wf2) 16 ls2) (updR (updR (updR R 2 (.ref pq)) 3 (.ref mq)) 4 (va_rf lp9)) Z (updA (updA (updA (updA (updA B2 20 f153) 21 f154) 22 f155) 23 f156) 24 f157) J K2 w pq dr ml nd nm cp it s9 x9 mq cs2 vr sz (n - 1) xk1 hd ty146 sl2 ([] : List Nat) hd dp2 rg152 ls2 lp9 g rk pb A2 (upQx Q2 gr2 cs e7 cs2 hd (nI ty146) 0) pd2 sl m9 lw c0 rt (gr2 + 1) as9 hdL slL xb2 xc2 rL (by omega) (BdE.wp hbe2 hwp) (BdE.pt hbe2 hwp hps) (BdE.rko hbe2 hrk) (by omega) (by omega) hng2 hf101 hxT ⟨hxv.1, (by have z9 := hxv; omega)⟩ hf102 hrv (by omega) (by omega) (by omega) (LpO.be hbe2 hlo) (EkA.be hbe2 ((BtR.up (BtR.up (BtR.up (BtR.up (BtR.up hbr2 (by omega)) (by omega)) (by omega)) (by omega)) (by omega)) 7 (by decide)) ((BtR.up (BtR.up (BtR.up (BtR.up (BtR.up hbr2 (by omega)) (by omega)) (by omega)) (by omega)) (by omega)) 11 (by decide)) hek) (OwC.be hbe2 hmq hdr0 hcO) (NaB.be hbe2 hbf2 hwp hps.2.1 hdr0 ((BtR.up (BtR.up (BtR.up (BtR.up (BtR.up hbr2 (by omega)) (by omega)) (by omega)) (by omega)) (by omega)) 11 (by decide)) hna) hen2 hao hst2.1 hwfa (by rw [hfx9]; exact hty146) htn9 (by omega) (by omega) (by omega) (by omega) (SkA.be hbe2 ((BtR.up (BtR.up (BtR.up (BtR.up (BtR.up hbr2 (by omega)) (by omega)) (by omega)) (by omega)) (by omega)) 11 (by decide)) hsk) hlp161 hrq160 hrL hlr2 hxb0 hxbT hxkv hxk (IhZ.lo ist) hO hl0) (gV pw_352 pw_353 pw_354 pw_63 pw_306) hV_X0_catchBlock qr166 0 hqr167 rfl rfl rfl (Nat.le_of_ble_eq_true rfl) dX0_tryStatement_148 ⟨(by show c2 + ((rE (g 2 x9) - rS (g 2 x9)) + 1) ≤ ((rE (g 2 q) - rS (g 2 q)) + 1); omega), (by show (6 * c2) + (6 * (rE (g 2 x9) - rS (g 2 x9)) + 6) ≤ (6 * (rE (g 2 q) - rS (g 2 q)) + 6); omega)⟩ ⟨(by show (5 * (n - 1) + 46) + 1 ≤ (5 * n + 46); omega), (by show 8 + (5 + 11) + (200 * (n - 1) + 1120) ≤ (200 * n + 1120); omega)⟩ (fun v165 u163 H locs hw164 hP hD hS => ?_) (fun ux ce9 q9 H9 locs9 hux hP9 hD9 hS9 hce hcv hcl => pb_out ux (ThQ.up (Thx.same (Thx.same (Thx.same (Thx.same (Thx.same (Thx.same (Thx.same (Thx.same (Thx.b (Thx.b (Thx.b (Thx.b (Thx.b (Thx.f (Thx.f (Thx.f (Thx.f (Thx.f (Thx.f (Bth.thx hbb2) (by omega)) (by omega)) (by omega)) (by omega)) (by omega)) (by omega)) (by omega) (by decide)) (by omega) (by decide)) (by omega) (by decide)) (by omega) (by decide)) (by omega) (by decide)) rfl) rfl) rfl) rfl) rfl) rfl) rfl) rfl) (show RhX (updR (updR (updR R 2 (.ref pq)) 3 (.ref mq)) 4 (va_rf lp9)) (updR (updR (updR (updR (updR (updR R 2 (.ref pq)) 3 (.ref mq)) 4 (va_rf lp9)) 2 (.ref pq)) 3 (.ref mq)) 4 (va_rf lp9)) from fun k9 hk9 => by unfold updR; simp only [show ¬ k9 = 1 by omega, show ¬ k9 = 2 by omega, show ¬ k9 = 3 by omega, show ¬ k9 = 4 by omega, if_false]) hux) hnt hlocks hce hcv hcl hP9 hD9 hS9 (by show c2 + ((rE (g 2 x9) - rS (g 2 x9)) + 1) ≤ ((rE (g 2 q) - rS (g 2 q)) + 1); omega) (by show (6 * c2) + (6 * (rE (g 2 x9) - rS (g 2 x9)) + 6) ≤ (6 * (rE (g 2 q) - rS (g 2 q)) + 6); omega))
        obtain ⟨w, K168, B169, cs170, as171, wt172, wf173, dp174, Ag175, rg176, gr177, ls178, Q179, pd180, xb181, xc182⟩ := u163
        obtain ⟨hw164, h183, h184, h185, h186, h187, h188, h189, h190, h191, h192, h193, h194, h195, h196, h197, h198, h199, hO⟩ := hw164
        replace h183 : SmW (updA (updA (updA (updA (updA B2 20 f153) 21 f154) 22 f155) 23 f156) 24 f157) B169 cs2 := h183
        replace h184 : BdE K2 K168 := h184
        replace h185 : BeF K2 K168 := h185
        replace h186 : BeL K2 K168 lp9 := h186
        replace h187 : Bth (updA (updA (updA (updA (updA B2 20 f153) 21 f154) 22 f155) 23 f156) 24 f157) B169 := h187
        replace h188 : BtR (updA (updA (updA (updA (updA B2 20 f153) 21 f154) 22 f155) 23 f156) 24 f157) B169 := h188
        replace h189 : cs2 ≤ cs170 ∧ cs170 + 10 ≤ cs2 + 2 * tlE g x9 := h189
        replace h190 : dp2 ≤ dp174 ∧ dp174 ≤ 71 := h190
        replace h191 : AsO as171 := h191
        replace h192 : VrS (updA (updA (updA (updA (updA B2 20 f153) 21 f154) 22 f155) 23 f156) 24 f157) B169 vr := h192
        replace h193 : (gr2 + 1) ≤ gr177 ∧ rg176 ≤ 625 ∧ rg176 ≤ gr177 ∧ (rg176 = 625 ∨ rg176 = gr177) := h193
        replace h194 : EnV (B169 26) (B169 27) nd vr hd c0 sl := h194
        replace h195 : CaW pb.1 pb.2.1 pb.2.2.1 pb.2.2.2 A2 Ag175 (upQx Q2 gr2 cs e7 cs2 hd (nI ty146) 0) Q179 pd2 pd180 m9 dp174 lw cs2 cs170 as9 as171 hd sl ty146 (gr2 + 1) gr177 (B169 16) (B169 17) (B169 18) (B169 19) := h195
        replace h196 : LpS K168 (B169 16) (B169 17) Ag175 pd180 lp9 lw cs170 hd sl hdL slL xb181 xc182 := h196
        replace h197 : PdS pd2 pd180 xb2 xb181 xc2 xc182 [] cs2 cs170 := h197
        replace h198 : RgQx B169 Q179 gr177 nd := h198
        replace h199 : LpR K168 lp9 rL := h199
        obtain rfl : v165 = none := hw164
        have hf200 : K168.1 pq = 7 := (BdE.T h184 hf93 (by decide))
        have hf201 : K168.2.2.1 18 pq = some (a 1) := (BdE.C h184 (by rw [hf93]; decide) 18).trans hf94
        have hf202 : K168.2.2.1 14 pq = some dr := (BdE.C h184 (by rw [hf93]; decide) 14).trans hf95
        have hf203 : K168.1 dr = 8 := (BdE.T h184 hf96 (by decide))
        have hf204 : K168.2.2.1 15 pq = some ml := (BdE.C h184 (by rw [hf93]; decide) 15).trans hf97
        have hf205 : K168.1 ml = 5 := (BdE.T h184 hf98 (by decide))
        have hf206 : K168.2.1 24 pq = (nI nd) := (BdE.I h184 (by rw [hf93]; decide) (by decide) (by decide)).trans hf99
        have hf207 : K168.1 q = 1 := (BdE.T h184 hf100 (by decide))
        have hf208 : K168.1 mq = 3 := (BdE.T h184 hf101 (by decide))
        have hf209 : K168.2.1 10 mq = (nI rt) := (BdE.I h184 (by rw [hf101]; decide) (by decide) (by decide)).trans hf102
        have hf210 : K168.2.2.1 0 q = some q1 := (BdE.C h184 (by rw [hf100]; decide) 0).trans hf103
        have hf211 : K168.1 q1 = 1 := (BdE.T h184 hf104 (by decide))
        have hf212 : K168.2.1 0 q1 = 21 := (BdE.I h184 (by rw [hf104]; decide) (by decide) (by decide)).trans hf105
        have hf213 : K168.2.2.1 2 q = none := (BdE.C h184 (by rw [hf100]; decide) 2).trans hf106
        have hf214 : K168.2.1 0 q = 32 := (BdE.I h184 (by rw [hf100]; decide) (by decide) (by decide)).trans hf107
        have hf215 : K168.1 x9 = 1 := (BdE.T h184 hxT (by decide))
        have hf216 : K168.2.1 0 x9 = 35 := (BdE.I h184 (by rw [hxT]; decide) (by decide) (by decide)).trans hxk
        have hf217 : K168.2.2.1 0 x9 = some xk1 := (BdE.C h184 (by rw [hxT]; decide) 0).trans hxb0
        have hf218 : K168.1 xk1 = 1 := (BdE.T h184 hxbT (by decide))
        have hf219 : K168.2.1 2 x9 = fx9 := (BdE.I h184 (by rw [hxT]; decide) (by decide) (by decide)).trans hfx9
        have hO : OKP G h0 a (upd (upd (upd (upd (upd (upd (upd (upd (upd (upd F 2 (nI sz)) 5 (nI cs170)) 6 (nI rg176)) 7 (nI hd)) 8 (nI dp174)) 12 (nI vr)) 13 as171) 14 wt172) 15 wf173) 16 ls178) (updR (updR (updR R 2 (.ref pq)) 3 (.ref mq)) 4 (va_rf lp9)) Z B169 J K168 w := hO.to rfl
        refine W.widen (k := (c2 + (rE (g 2 x9) - rS (g 2 x9)))) (n := ((6 * c2) + (6 * (rE (g 2 x9) - rS (g 2 x9))))) (by show c2 + (rE (g 2 x9) - rS (g 2 x9)) ≤ (c2 + (rE (g 2 x9) - rS (g 2 x9))); omega) (by show (6 * c2) + (6 * (rE (g 2 x9) - rS (g 2 x9))) ≤ ((6 * c2) + (6 * (rE (g 2 x9) - rS (g 2 x9)))); omega) ?_
        refine W.eq (g2 := F0 m 151 ls []) rfl ?_
        have hbe220 := BdE.trans hbe2 h184
        have hbb221 : Bth B B169 := Bth.trans (show Thx (upd (upd (upd (upd (upd (upd (upd (upd F 2 (nI sz)) 5 (nI cs)) 6 (nI rg)) 7 (nI hd)) 8 (nI dp)) 12 (nI vr)) 13 as9) 16 ls9) (upd (upd (upd (upd (upd (upd (upd (upd (upd (upd (upd (upd (upd (upd F 2 (nI sz)) 5 (nI cs)) 6 (nI rg)) 7 (nI hd)) 8 (nI dp)) 12 (nI vr)) 13 as9) 16 ls9) 5 (nI cs2)) 6 (nI rg152)) 8 (nI dp2)) 14 wt2) 15 wf2) 16 ls2) B (updA (updA (updA (updA (updA B2 20 f153) 21 f154) 22 f155) 23 f156) 24 f157) from (Thx.b (Thx.b (Thx.b (Thx.b (Thx.b (Thx.f (Thx.f (Thx.f (Thx.f (Thx.f (Thx.f (Bth.thx hbb2) (by omega)) (by omega)) (by omega)) (by omega)) (by omega)) (by omega)) (by omega) (by decide)) (by omega) (by decide)) (by omega) (by decide)) (by omega) (by decide)) (by omega) (by decide))).2 h187
        have hng222 : Nng (B169 18) := h187.2 hng2
        have hsw223 : ∀ x9 : Nat, x9 < cs → (B169 16) x9 = B 16 x9 := fun x9 hx9 => ((h183 x9 (by omega)).1).trans ((fun x9 hx9 => (hsw2 x9 hx9).1) x9 hx9)
        have hsw224 : ∀ x9 : Nat, x9 < cs → (B169 17) x9 = B 17 x9 := fun x9 hx9 => ((h183 x9 (by omega)).2.1).trans ((fun x9 hx9 => (hsw2 x9 hx9).2.1) x9 hx9)
        have hsw225 : ∀ x9 : Nat, x9 < cs → (B169 18) x9 = B 18 x9 := fun x9 hx9 => ((h183 x9 (by omega)).2.2.1).trans ((fun x9 hx9 => (hsw2 x9 hx9).2.2.1) x9 hx9)
        have hsw226 : ∀ x9 : Nat, x9 < cs → (B169 19) x9 = B 19 x9 := fun x9 hx9 => ((h183 x9 (by omega)).2.2.2).trans ((fun x9 hx9 => (hsw2 x9 hx9).2.2.2) x9 hx9)
        have hbf227 := BeF.trans hbf2 h185 hbe2
        have hbl229 : BeL K K168 lp9 := BeL.trans hbl2 h186 hbe2
        have hbr228 : BtR B B169 := BtR.trans (BtR.up (BtR.up (BtR.up (BtR.up (BtR.up hbr2 (by omega)) (by omega)) (by omega)) (by omega)) (by omega)) h188
        have hvs230 : VrS B B169 vr := VrS.trans hvs2 h192 (by omega)
        have hpd232 : PdS pd pd180 xb xb181 xc xc182 xs2 cs cs170 := PdS.call hpd2 h197 (by omega) (by omega)
        refine lv_aload_n hx hb dX0_tryStatement_151 rfl (lv_at hl 10 rfl) ?_
        refine c_get (v := .ref (a 2)) (C := RX0) (Tc := TX0) (N := 13) (ci := 0) hx hb hq pin_wsX00 hown hE hP hO 24 (sg_24 G h0 a _ _ _ _ _) rfl 1 (by decide) (hq _ pw_5) (fun _ h9 => h9) rfl dX0_tryStatement_152 ?_
        refine lv_iload_n hx hb dX0_tryStatement_155 rfl (lv_at hl 7 rfl) ?_
        refine lv_iload hx hb dX0_tryStatement_156 (lv_at hl 2 rfl) ?_
        refine lv_iload hx hb dX0_tryStatement_158 (lv_at hl 6 rfl) ?_
        have hO : OKW G h0 a (upd (upd (upd (upd (upd (upd (upd (upd (upd (upd (upd (upd F 2 (nI sz)) 5 (nI cs170)) 6 (nI rg176)) 7 (nI hd)) 8 (nI dp174)) 12 (nI vr)) 13 as171) 14 wt172) 15 wf173) 16 ls178) 5 (nI cs170)) 7 (nI hd)) (updR (updR (updR R 2 (.ref pq)) 3 (.ref mq)) 4 (va_rf lp9)) Z B169 J K168.1 (fun q99 x99 => x99 = rep G a K168 q99) w := hO.to rfl
        obtain ⟨_, qr236, hqr237⟩ := hO.2.1 13 _ (sg_13 G h0 a _ _ _ _ _)
        refine pc_V0 (G := G) (As := [.int 6, .int b8, .int (nI hd)]) (rest := []) hx hb hml hown hq hE hX pX0_al hP hD hS hA hl.1 (Y_jump l G h0 a (upd (upd (upd (upd (upd (upd (upd (upd (upd (upd F 2 (nI sz)) 5 (nI cs170)) 6 (nI rg176)) 7 (nI hd)) 8 (nI dp174)) 12 (nI vr)) 13 as171) 14 wt172) 15 wf173) 16 ls178) (updR (updR (updR R 2 (.ref pq)) 3 (.ref mq)) 4 (va_rf lp9)) Z B169 J K168.1 (fun q99 x99 => x99 = rep G a K168 q99) w 6 b8 (nI hd) cs170 hd (by omega) hO) (gV pw_197 pw_198 pw_199 pw_70 pw_132) hV_X1_jump qr236 1 hqr237 rfl rfl rfl (Nat.le_of_ble_eq_true rfl) dX0_tryStatement_160 ⟨(by show (c2 + (rE (g 2 x9) - rS (g 2 x9))) + 0 ≤ ((rE (g 2 q) - rS (g 2 q)) + 1); omega), (by show ((6 * c2) + (6 * (rE (g 2 x9) - rS (g 2 x9)))) + 0 ≤ (6 * (rE (g 2 q) - rS (g 2 q)) + 6); omega)⟩ ⟨(by show 3 + 1 ≤ (5 * n + 46); omega), (by show 8 + (4 + 11) + 83 ≤ (200 * n + 1120); omega)⟩ (fun v235 u233 H locs hw234 hP hD hS => ?_)
        obtain ⟨w, _⟩ := u233
        obtain ⟨hw234, hO⟩ := hw234
        obtain rfl : v235 = some (.int (nI cs170)) := hw234
        have hO : OKP G h0 a (upd (upd (upd (upd (upd (upd (upd (upd (upd (upd F 2 (nI sz)) 5 (nI (cs170 + 1))) 6 (nI rg176)) 7 (nI hd)) 8 (nI dp174)) 12 (nI vr)) 13 as171) 14 wt172) 15 wf173) 16 ls178) (updR (updR (updR R 2 (.ref pq)) 3 (.ref mq)) 4 (va_rf lp9)) Z (updA (updA (updA (updA B169 16 (upd ((B169 16)) cs170 6)) 17 (upd ((B169 17)) cs170 b8)) 18 (upd ((B169 18)) cs170 (nI hd))) 19 (upd ((B169 19)) cs170 (nI hd))) J K168 w := hO.to rfl
        refine W.widen (k := (c2 + (rE (g 2 x9) - rS (g 2 x9)))) (n := ((6 * c2) + (6 * (rE (g 2 x9) - rS (g 2 x9))))) (by show (c2 + (rE (g 2 x9) - rS (g 2 x9))) + 0 ≤ (c2 + (rE (g 2 x9) - rS (g 2 x9))); omega) (by show ((6 * c2) + (6 * (rE (g 2 x9) - rS (g 2 x9)))) + 0 ≤ ((6 * c2) + (6 * (rE (g 2 x9) - rS (g 2 x9)))); omega) ?_
        refine W.eq (g2 := F0 m 163 ls [.int (nI cs170)]) rfl ?_
        have hsw238 : ∀ x9 : Nat, x9 < cs → (upd ((B169 16)) cs170 6) x9 = B 16 x9 := fun x9 hx9 => (if_neg (by omega)).trans (hsw223 x9 hx9)
        have hsw239 : ∀ x9 : Nat, x9 < cs → (upd ((B169 17)) cs170 b8) x9 = B 17 x9 := fun x9 hx9 => (if_neg (by omega)).trans (hsw224 x9 hx9)
        have hsw240 : ∀ x9 : Nat, x9 < cs → (upd ((B169 18)) cs170 (nI hd)) x9 = B 18 x9 := fun x9 hx9 => (if_neg (by omega)).trans (hsw225 x9 hx9)
        have hsw241 : ∀ x9 : Nat, x9 < cs → (upd ((B169 19)) cs170 (nI hd)) x9 = B 19 x9 := fun x9 hx9 => (if_neg (by omega)).trans (hsw226 x9 hx9)
        have hcat := StW.catch (k := 6) hst2 hai2 (fun x9 hx9 => ⟨(h183 x9 hx9).1, (h183 x9 hx9).2.1⟩) (by omega) h195 (by omega) ⟨by omega, by omega⟩ (by omega) (by decide) (nI hd) b8
        obtain ⟨Ag242, hst243, hai244, hag245⟩ : ∃ A5 : Nat → AS, StW pb.1 pb.2.1 pb.2.2.1 pb.2.2.2 Ag A5 Q9 Q179 pd (fun z => pd180 z ∨ z = cs170) m9 dp174 lw cs (cs170 + 1) as9 (-1) hd hd sl (upM sl hd ty146) gr gr177 (upd ((B169 16)) cs170 6) (upd ((B169 17)) cs170 b8) (upd ((B169 18)) cs170 (nI hd)) (upd ((B169 19)) cs170 (nI hd)) ([] : List Nat) ∧ AiL A5 (upd ((B169 16)) cs170 6) (upd ((B169 17)) cs170 b8) (fun z => pd180 z ∨ z = cs170) cs (cs170 + 1) ∧ ∀ x9 : Nat, x9 ≤ cs170 → A5 x9 = Ag175 x9 := ⟨_, hcat.1, hcat.2, fun x9 hx9 => upS_ne (by omega)⟩
        have hlp246 : LpS K168 (upd ((B169 16)) cs170 6) (upd ((B169 17)) cs170 b8) Ag242 (fun z => pd180 z ∨ z = cs170) lp9 lw (cs170 + 1) hd (upM sl hd ty146) hdL slL xb181 xc182 := LpS.same h196 (fun _ _ _ _ _ => rfl) (fun z9 hz9 => ⟨if_neg (by omega), if_neg (by omega), hag245 z9 (by omega)⟩) (fun _ h9 => Or.inl h9) (fun z9 h9 => h9.elim (fun h8 => Nat.lt_succ_of_lt (h196.1 z9 h8)) (fun h8 => by omega)) (by omega) ⟨Nat.le_refl _, upM_lo⟩
        have hng247 : Nng (upd ((B169 18)) cs170 (nI hd)) := Nng.set hng222 (k := hd) (by omega)
        have hpd248 : PdS pd (fun z => pd180 z ∨ z = cs170) xb xb181 xc xc182 (cs170 :: xs2) cs (cs170 + 1) := PdS.jmp hpd232 (LpS.lt h196).1 (LpS.lt h196).2 (by omega)
        have hch249 : ChnJ (upd ((B169 17)) cs170 b8) (nI cs170) (cs170 :: xs2) := ChnJ.emit (ChnJ.same hch2 (fun y9 hy9 => (h183 y9 (PdS.js hpd2 y9 hy9).2.1).2.1)) (by omega) (fun y9 hy9 => by have z9 := (PdS.js hpd2 y9 hy9).2.1; omega)
        have hj250 : Ag242 cs170 = (rcA as171, hd, upM sl hd ty146, ([] : List Nat)) := (hag245 cs170 (Nat.le_refl _)).trans h195.1.1.2
        have hjw251 : LpJ (upd ((B169 16)) cs170 6) Ag242 (cs170 :: xs2) lw (cs170 + 1) hd sl (b9 &&& as171) := LpJ.cons (cs := cs170) (LpJ.same hj2 (fun z9 hz9 => ⟨(h183 z9 hz9).1, h195.2.2.1 z9 hz9⟩) (by omega)) ⟨by omega, by omega, Or.inl (if_pos rfl), fun z9 => by rw [hj250] at z9 ⊢; exact ⟨and_n2 (rcA_of z9), Nat.le_refl _, upM_lo, rfl⟩⟩ (fun z9 hz9 => ⟨if_neg (by omega), hag245 z9 (by omega)⟩) (by omega) (fun z9 => and_n1 z9)
        have hb9252 : AsO (b9 &&& as171) ∧ (¬ (b9 &&& as171) = -1 → ¬ as9 = -1) := ⟨AsO.and hb92.1 h191, fun z9 e9 => z9 (and_m1.mpr ⟨Classical.byContradiction fun y9 => hb92.2 y9 e9, Classical.byContradiction fun y9 => h195.2.2.2.2.2.2.1 y9 e9⟩)⟩
        refine lv_istore (lv' := [(8, .int (nI cs170)), (10, .ref x9), (9, .int b9), (7, .int (nI e7)), (6, .int (nI cs)), (5, .int as9), (4, .int (nI hd)), (3, .int 6), (2, .int 0), (1, .ref q), (0, .ref (a 4))]) hx hb dX0_tryStatement_163 hl (by decide) rfl (fun ls hl => ?_)
        refine lv_iload hx hb dX0_tryStatement_165 (lv_at hl 2 rfl) ?_
        refine lv_aload_n hx hb dX0_tryStatement_167 rfl (lv_at hl 10 rfl) ?_
        refine c_get (v := .int as171) (C := RX0) (Tc := TX0) (N := 13) (ci := 0) hx hb hq pin_wsX00 hown hE hP hO 24 (sg_24 G h0 a _ _ _ _ _) rfl 8 (by decide) (hq _ pw_55) (fun _ h9 => h9) rfl dX0_tryStatement_168 ?_
        refine lv_iand hx hb dX0_tryStatement_171 ?_
        refine lv_topi (fun x253 e254 => ?_)
        obtain rfl : x253 = (b9 &&& as171) := e254
        refine lv_istore (lv' := [(9, .int (b9 &&& as171)), (8, .int (nI cs170)), (10, .ref x9), (7, .int (nI e7)), (6, .int (nI cs)), (5, .int as9), (4, .int (nI hd)), (3, .int 6), (2, .int 0), (1, .ref q), (0, .ref (a 4))]) hx hb dX0_tryStatement_172 hl (by decide) rfl (fun ls hl => ?_)
        refine lv_aload hx hb dX0_tryStatement_174 (lv_at hl 2 rfl) ?_
        rcases ho256 : K168.2.2.1 4 x9 with _ | o255
        · skip
          refine p_get (v := .null) (C := RX7) (Tc := TX7) (N := 11) (ci := 13) hx hb hq pin_wsX70 hown hE hP hO (by rw [hf215]; decide) (rep_1 hf215) rfl 10 (by decide) (hq _ pw_170) (fun _ h9 => h9) (congrArg (fun z => some (va_rf z)) ho256) dX0_tryStatement_176 ?_
          refine lv_astoreN (lv' := [(10, .null), (9, .int (b9 &&& as171)), (8, .int (nI cs170)), (7, .int (nI e7)), (6, .int (nI cs)), (5, .int as9), (4, .int (nI hd)), (3, .int 6), (2, .int 0), (1, .ref q), (0, .ref (a 4))]) hx hb dX0_tryStatement_179 hl (by decide) rfl (fun ls hl => ?_)
          refine lv_goto (tgt := 109) hx hb dX0_tryStatement_181 (by decide) ?_
          refine W.widen (k := (c2 + (rE (g 2 x9) - rS (g 2 x9)))) (n := (6 * (c2 + (rE (g 2 x9) - rS (g 2 x9))))) (by show (c2 + (rE (g 2 x9) - rS (g 2 x9))) ≤ _; omega) (by show ((6 * c2) + (6 * (rE (g 2 x9) - rS (g 2 x9)))) ≤ _; omega) ?_
          have hO : OKP G h0 a (upd (upd (upd (upd (upd (upd (upd (upd (upd (upd F 2 (nI sz)) 5 (nI (cs170 + 1))) 6 (nI rg176)) 7 (nI hd)) 8 (nI dp174)) 12 (nI vr)) 13 as171) 14 wt172) 15 wf173) 16 ls178) (updR (updR (updR R 2 (.ref pq)) 3 (.ref mq)) 4 (va_rf lp9)) Z (updA (updA (updA (updA B169 16 (upd ((B169 16)) cs170 6)) 17 (upd ((B169 17)) cs170 b8)) 18 (upd ((B169 18)) cs170 (nI hd))) 19 (upd ((B169 19)) cs170 (nI hd))) J K168 w := hO.to rfl
          exact ih_g (g 2 x9 + 1) none K168 (updA (updA (updA (updA B169 16 (upd ((B169 16)) cs170 6)) 17 (upd ((B169 17)) cs170 b8)) 18 (upd ((B169 18)) cs170 (nI hd))) 19 (upd ((B169 19)) cs170 (nI hd))) (cs170 + 1) as171 wt172 wf173 dp174 rg176 gr177 ls178 Ag242 (upM sl hd ty146) Q179 (fun z => pd180 z ∨ z = cs170) xb181 xc182 (rE (g 2 x9)) (c2 + (rE (g 2 x9) - rS (g 2 x9))) e7 (nI cs170) (b9 &&& as171) (cs170 :: xs2) _ _ _ _ (by omega) (by omega) hbe220 hbf227 hbl229 (BtR.up (BtR.up (BtR.up (BtR.up hbr228 (by omega)) (by omega)) (by omega)) (by omega)) ((show Thx (upd (upd (upd (upd (upd (upd (upd (upd F 2 (nI sz)) 5 (nI cs)) 6 (nI rg)) 7 (nI hd)) 8 (nI dp)) 12 (nI vr)) 13 as9) 16 ls9) (upd (upd (upd (upd (upd (upd (upd (upd (upd (upd (upd (upd (upd (upd (upd F 2 (nI sz)) 5 (nI cs)) 6 (nI rg)) 7 (nI hd)) 8 (nI dp)) 12 (nI vr)) 13 as9) 16 ls9) 5 (nI (cs170 + 1))) 6 (nI rg176)) 8 (nI dp174)) 13 as171) 14 wt172) 15 wf173) 16 ls178) B (updA (updA (updA (updA B169 16 (upd ((B169 16)) cs170 6)) 17 (upd ((B169 17)) cs170 b8)) 18 (upd ((B169 18)) cs170 (nI hd))) 19 (upd ((B169 19)) cs170 (nI hd))) from (Thx.b (Thx.b8 (Thx.b (Thx.b (Thx.f (Thx.f (Thx.f (Thx.f (Thx.f (Thx.f (Thx.f (Bth.thx hbb221) (by omega)) (by omega)) (by omega)) (by omega)) (by omega)) (by omega)) (by omega)) (by omega) (by decide)) (by omega) (by decide)) hng247) (by omega) (by decide))).2) hng247 (fun x9 hx9 => ⟨hsw238 x9 hx9, hsw239 x9 hx9, hsw240 x9 hx9, hsw241 x9 hx9⟩) hvs230 h191 (by omega) (by omega) hst243 hlp246 hpd248 h198 h199 h194 hai244 hch249 hjw251 hb9252 (MmO.next (BdE.wp hbe220 hwp).1 hqL.1 hf215 hxd.2.1 hxd.2.2.2.1 ho256) (by omega) (by omega) hP hD hS hO (lv_sub hl [0, 1, 2, 3, 4, 5, 6, 7, 8, 9, 10] rfl)
        · skip
          refine p_get (v := .ref o255) (C := RX7) (Tc := TX7) (N := 11) (ci := 13) hx hb hq pin_wsX70 hown hE hP hO (by rw [hf215]; decide) (rep_1 hf215) rfl 10 (by decide) (hq _ pw_170) (fun _ h9 => h9) (congrArg (fun z => some (va_rf z)) ho256) dX0_tryStatement_176 ?_
          refine lv_astore (lv' := [(10, .ref o255), (9, .int (b9 &&& as171)), (8, .int (nI cs170)), (7, .int (nI e7)), (6, .int (nI cs)), (5, .int as9), (4, .int (nI hd)), (3, .int 6), (2, .int 0), (1, .ref q), (0, .ref (a 4))]) hx hb dX0_tryStatement_179 hl (by decide) rfl (fun ls hl => ?_)
          refine lv_goto (tgt := 109) hx hb dX0_tryStatement_181 (by decide) ?_
          refine W.widen (k := (c2 + (rE (g 2 x9) - rS (g 2 x9)))) (n := (6 * (c2 + (rE (g 2 x9) - rS (g 2 x9))))) (by show (c2 + (rE (g 2 x9) - rS (g 2 x9))) ≤ _; omega) (by show ((6 * c2) + (6 * (rE (g 2 x9) - rS (g 2 x9)))) ≤ _; omega) ?_
          have hO : OKP G h0 a (upd (upd (upd (upd (upd (upd (upd (upd (upd (upd F 2 (nI sz)) 5 (nI (cs170 + 1))) 6 (nI rg176)) 7 (nI hd)) 8 (nI dp174)) 12 (nI vr)) 13 as171) 14 wt172) 15 wf173) 16 ls178) (updR (updR (updR R 2 (.ref pq)) 3 (.ref mq)) 4 (va_rf lp9)) Z (updA (updA (updA (updA B169 16 (upd ((B169 16)) cs170 6)) 17 (upd ((B169 17)) cs170 b8)) 18 (upd ((B169 18)) cs170 (nI hd))) 19 (upd ((B169 19)) cs170 (nI hd))) J K168 w := hO.to rfl
          exact ih_g (g 2 x9 + 1) (some o255) K168 (updA (updA (updA (updA B169 16 (upd ((B169 16)) cs170 6)) 17 (upd ((B169 17)) cs170 b8)) 18 (upd ((B169 18)) cs170 (nI hd))) 19 (upd ((B169 19)) cs170 (nI hd))) (cs170 + 1) as171 wt172 wf173 dp174 rg176 gr177 ls178 Ag242 (upM sl hd ty146) Q179 (fun z => pd180 z ∨ z = cs170) xb181 xc182 (rE (g 2 x9)) (c2 + (rE (g 2 x9) - rS (g 2 x9))) e7 (nI cs170) (b9 &&& as171) (cs170 :: xs2) _ _ _ _ (by omega) (by omega) hbe220 hbf227 hbl229 (BtR.up (BtR.up (BtR.up (BtR.up hbr228 (by omega)) (by omega)) (by omega)) (by omega)) ((show Thx (upd (upd (upd (upd (upd (upd (upd (upd F 2 (nI sz)) 5 (nI cs)) 6 (nI rg)) 7 (nI hd)) 8 (nI dp)) 12 (nI vr)) 13 as9) 16 ls9) (upd (upd (upd (upd (upd (upd (upd (upd (upd (upd (upd (upd (upd (upd (upd F 2 (nI sz)) 5 (nI cs)) 6 (nI rg)) 7 (nI hd)) 8 (nI dp)) 12 (nI vr)) 13 as9) 16 ls9) 5 (nI (cs170 + 1))) 6 (nI rg176)) 8 (nI dp174)) 13 as171) 14 wt172) 15 wf173) 16 ls178) B (updA (updA (updA (updA B169 16 (upd ((B169 16)) cs170 6)) 17 (upd ((B169 17)) cs170 b8)) 18 (upd ((B169 18)) cs170 (nI hd))) 19 (upd ((B169 19)) cs170 (nI hd))) from (Thx.b (Thx.b8 (Thx.b (Thx.b (Thx.f (Thx.f (Thx.f (Thx.f (Thx.f (Thx.f (Thx.f (Bth.thx hbb221) (by omega)) (by omega)) (by omega)) (by omega)) (by omega)) (by omega)) (by omega)) (by omega) (by decide)) (by omega) (by decide)) hng247) (by omega) (by decide))).2) hng247 (fun x9 hx9 => ⟨hsw238 x9 hx9, hsw239 x9 hx9, hsw240 x9 hx9, hsw241 x9 hx9⟩) hvs230 h191 (by omega) (by omega) hst243 hlp246 hpd248 h198 h199 h194 hai244 hch249 hjw251 hb9252 (MmO.next (BdE.wp hbe220 hwp).1 hqL.1 hf215 hxd.2.1 hxd.2.2.2.1 ho256) (by omega) (by omega) hP hD hS hO (lv_sub hl [0, 1, 2, 3, 4, 5, 6, 7, 8, 9, 10] rfl)
  refine lv_aload_n hx hb dX0_tryStatement_103 rfl (lv_at hl 9 rfl) ?_
  rcases ho258 : K11.2.2.1 1 q with _ | o257
  · skip
    refine p_get (v := .null) (C := RX7) (Tc := TX7) (N := 11) (ci := 13) hx hb hq pin_wsX70 hown hE hP hO (by rw [hf50]; decide) (rep_1 hf50) rfl 7 (by decide) (hq _ pw_169) (fun _ h9 => h9) (congrArg (fun z => some (va_rf z)) ho258) dX0_tryStatement_104 ?_
    refine lv_astoreN (lv' := [(10, .null), (9, .int as14), (8, .int (nI cs13)), (7, .int (nI cs13)), (6, .int (nI cs)), (5, .int as9), (4, .int (nI hd)), (3, .int 6), (2, .int 0), (0, .ref (a 4)), (1, .ref q)]) hx hb dX0_tryStatement_107 hl (by decide) rfl (fun ls hl => ?_)
    refine W.widen (k := (rE (g 2 q1) - rS (g 2 q1) - 2)) (n := (6 * (rE (g 2 q1) - rS (g 2 q1) - 2))) (by show (rE (g 2 q1) - rS (g 2 q1) - 2) ≤ _; omega) (by show (6 * (rE (g 2 q1) - rS (g 2 q1) - 2)) ≤ _; omega) ?_
    have hO : OKP G h0 a (upd (upd (upd (upd (upd (upd (upd (upd (upd (upd F 2 (nI sz)) 5 (nI (cs13 + 1))) 6 (nI rg19)) 7 (nI hd)) 8 (nI dp17)) 12 (nI vr)) 13 as14) 14 wt15) 15 wf16) 16 ls21) (updR (updR (updR R 2 (.ref pq)) 3 (.ref mq)) 4 (va_rf lp9)) Z (updA (updA (updA (updA B12 16 (upd ((B12 16)) cs13 6)) 17 (upd ((B12 17)) cs13 (-1))) 18 (upd ((B12 18)) cs13 (nI hd))) 19 (upd ((B12 19)) cs13 (nI hd))) J K11 w := hO.to rfl
    exact loop_g (1000000000000000000000001 + 1) 0 none K11 (updA (updA (updA (updA B12 16 (upd ((B12 16)) cs13 6)) 17 (upd ((B12 17)) cs13 (-1))) 18 (upd ((B12 18)) cs13 (nI hd))) 19 (upd ((B12 19)) cs13 (nI hd))) (cs13 + 1) as14 wt15 wf16 dp17 rg19 gr20 ls21 Ag81 sl Q22 (fun z => pd23 z ∨ z = cs13) xb24 xc25 (rM (g 2 q)) (rE (g 2 q1) - rS (g 2 q1) - 2) cs13 (nI cs13) as14 (cs13 :: ([] : List Nat)) _ _ _ _ (by omega) (by omega) hbe58 hbf65 hbl67 (BtR.up (BtR.up (BtR.up (BtR.up hbr66 (by omega)) (by omega)) (by omega)) (by omega)) ((show Thx (upd (upd (upd (upd (upd (upd (upd (upd F 2 (nI sz)) 5 (nI cs)) 6 (nI rg)) 7 (nI hd)) 8 (nI dp)) 12 (nI vr)) 13 as9) 16 ls9) (upd (upd (upd (upd (upd (upd (upd (upd (upd (upd (upd (upd (upd (upd (upd F 2 (nI sz)) 5 (nI cs)) 6 (nI rg)) 7 (nI hd)) 8 (nI dp)) 12 (nI vr)) 13 as9) 16 ls9) 5 (nI (cs13 + 1))) 6 (nI rg19)) 8 (nI dp17)) 13 as14) 14 wt15) 15 wf16) 16 ls21) B (updA (updA (updA (updA B12 16 (upd ((B12 16)) cs13 6)) 17 (upd ((B12 17)) cs13 (-1))) 18 (upd ((B12 18)) cs13 (nI hd))) 19 (upd ((B12 19)) cs13 (nI hd))) from (Thx.b (Thx.b8 (Thx.b (Thx.b (Thx.f (Thx.f (Thx.f (Thx.f (Thx.f (Thx.f (Thx.f (Bth.thx hbb59) (by omega)) (by omega)) (by omega)) (by omega)) (by omega)) (by omega)) (by omega)) (by omega) (by decide)) (by omega) (by decide)) hng85) (by omega) (by decide))).2) hng85 (fun x9 hx9 => ⟨hsw77 x9 hx9, hsw78 x9 hx9, hsw79 x9 hx9, hsw80 x9 hx9⟩) hvs68 h34 (by omega) (by omega) hst82 hlp84 hpd86 h41 h42 h37 hai0 hch0 hjw92 hb90 (MmO.first32 (BdE.wp hbe58 hwp).1 hf50 hqL.1 hf57 ho258) (by omega) (by omega) hP hD hS hO (lv_sub hl [0, 1, 2, 3, 4, 5, 6, 7, 8, 10, 9] rfl)
  · skip
    refine p_get (v := .ref o257) (C := RX7) (Tc := TX7) (N := 11) (ci := 13) hx hb hq pin_wsX70 hown hE hP hO (by rw [hf50]; decide) (rep_1 hf50) rfl 7 (by decide) (hq _ pw_169) (fun _ h9 => h9) (congrArg (fun z => some (va_rf z)) ho258) dX0_tryStatement_104 ?_
    refine lv_astore (lv' := [(10, .ref o257), (9, .int as14), (8, .int (nI cs13)), (7, .int (nI cs13)), (6, .int (nI cs)), (5, .int as9), (4, .int (nI hd)), (3, .int 6), (2, .int 0), (0, .ref (a 4)), (1, .ref q)]) hx hb dX0_tryStatement_107 hl (by decide) rfl (fun ls hl => ?_)
    refine W.widen (k := (rE (g 2 q1) - rS (g 2 q1) - 2)) (n := (6 * (rE (g 2 q1) - rS (g 2 q1) - 2))) (by show (rE (g 2 q1) - rS (g 2 q1) - 2) ≤ _; omega) (by show (6 * (rE (g 2 q1) - rS (g 2 q1) - 2)) ≤ _; omega) ?_
    have hO : OKP G h0 a (upd (upd (upd (upd (upd (upd (upd (upd (upd (upd F 2 (nI sz)) 5 (nI (cs13 + 1))) 6 (nI rg19)) 7 (nI hd)) 8 (nI dp17)) 12 (nI vr)) 13 as14) 14 wt15) 15 wf16) 16 ls21) (updR (updR (updR R 2 (.ref pq)) 3 (.ref mq)) 4 (va_rf lp9)) Z (updA (updA (updA (updA B12 16 (upd ((B12 16)) cs13 6)) 17 (upd ((B12 17)) cs13 (-1))) 18 (upd ((B12 18)) cs13 (nI hd))) 19 (upd ((B12 19)) cs13 (nI hd))) J K11 w := hO.to rfl
    exact loop_g (1000000000000000000000001 + 1) 0 (some o257) K11 (updA (updA (updA (updA B12 16 (upd ((B12 16)) cs13 6)) 17 (upd ((B12 17)) cs13 (-1))) 18 (upd ((B12 18)) cs13 (nI hd))) 19 (upd ((B12 19)) cs13 (nI hd))) (cs13 + 1) as14 wt15 wf16 dp17 rg19 gr20 ls21 Ag81 sl Q22 (fun z => pd23 z ∨ z = cs13) xb24 xc25 (rM (g 2 q)) (rE (g 2 q1) - rS (g 2 q1) - 2) cs13 (nI cs13) as14 (cs13 :: ([] : List Nat)) _ _ _ _ (by omega) (by omega) hbe58 hbf65 hbl67 (BtR.up (BtR.up (BtR.up (BtR.up hbr66 (by omega)) (by omega)) (by omega)) (by omega)) ((show Thx (upd (upd (upd (upd (upd (upd (upd (upd F 2 (nI sz)) 5 (nI cs)) 6 (nI rg)) 7 (nI hd)) 8 (nI dp)) 12 (nI vr)) 13 as9) 16 ls9) (upd (upd (upd (upd (upd (upd (upd (upd (upd (upd (upd (upd (upd (upd (upd F 2 (nI sz)) 5 (nI cs)) 6 (nI rg)) 7 (nI hd)) 8 (nI dp)) 12 (nI vr)) 13 as9) 16 ls9) 5 (nI (cs13 + 1))) 6 (nI rg19)) 8 (nI dp17)) 13 as14) 14 wt15) 15 wf16) 16 ls21) B (updA (updA (updA (updA B12 16 (upd ((B12 16)) cs13 6)) 17 (upd ((B12 17)) cs13 (-1))) 18 (upd ((B12 18)) cs13 (nI hd))) 19 (upd ((B12 19)) cs13 (nI hd))) from (Thx.b (Thx.b8 (Thx.b (Thx.b (Thx.f (Thx.f (Thx.f (Thx.f (Thx.f (Thx.f (Thx.f (Bth.thx hbb59) (by omega)) (by omega)) (by omega)) (by omega)) (by omega)) (by omega)) (by omega)) (by omega) (by decide)) (by omega) (by decide)) hng85) (by omega) (by decide))).2) hng85 (fun x9 hx9 => ⟨hsw77 x9 hx9, hsw78 x9 hx9, hsw79 x9 hx9, hsw80 x9 hx9⟩) hvs68 h34 (by omega) (by omega) hst82 hlp84 hpd86 h41 h42 h37 hai0 hch0 hjw92 hb90 (MmO.first32 (BdE.wp hbe58 hwp).1 hf50 hqL.1 hf57 ho258) (by omega) (by omega) hP hD hS hO (lv_sub hl [0, 1, 2, 3, 4, 5, 6, 7, 8, 10, 9] rfl)

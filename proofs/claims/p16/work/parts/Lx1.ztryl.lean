set_option maxHeartbeats 60000000 in
set_option maxRecDepth 100000 in
theorem Y_tryL (l : Launch) (G : pT) (h0 : Nat) (a : Nat → Nat) (F : Nat → Int32) (R : Nat → Value) (Z : Int64) (B : Nat → Nat → Int32) (J : Nat → Nat → Int64) (K : PK) (w : va_W) (pq : Nat) (dr : Nat) (ml : Nat) (nd : Nat) (nm : Nat) (cp : Nat) (it : Nat → Nat) (s9 : Nat) (q : Nat) (mq : Nat) (cs : Nat) (vr : Nat) (sz : Nat) (n : Nat) (q1 : Nat) (q3 : Nat) (hd : Nat) (dp : Nat) (rg : Nat) (ls9 : Int32) (lp9 : Option Nat) (g : Nat → Nat → Nat) (rk : Nat → Nat) (pb : PNb) (Ag : Nat → AS) (Q9 : RX) (pd : Nat → Prop) (sl : Nat → Nat) (m9 : Nat) (lw : Nat) (c0 : Nat) (rt : Nat) (gr : Nat) (as9 : Int32) (hdL : Nat) (slL : Nat → Nat) (xb : List Nat) (xc : List Nat) (rL : Prop) (hsz : sz ≤ 5000) (hwp : WPr G K g) (hps : PgT G K g (a 1) pq dr ml nd nm cp it s9) (hrk : RkO K rk) (hcs : cs ≤ 10000) (hvr : vr ≤ 30) (hng : Nng (B 18)) (hmq : K.1 mq = 3) (hqT : K.1 q = 1) (hqL : 1 ≤ g 0 q ∧ g 0 q ≤ n) (hrt : K.2.1 10 mq = nI rt) (hrv : TyV nd rt ∧ (bX pb).2.2.2.2.1 m9 = rt) (hdp : dp ≤ 71) (hrg : rg ≤ 625) (hhd : hd ≤ 41 + vr) (hlo : LpO K lp9) (hek : EkA pb K g (B 7) (B 11) sz) (hcO : OwC K dr mq c0) (hna : NaB pb G K (B 11) dr nd sz) (hen : EnV (B 26) (B 27) nd vr hd c0 sl) (hao : AsO as9) (hem : EmB pb B Ag pd m9 dp lw cs as9 hd sl []) (hrm : cs + 2 * tlE g q ≤ 9999) (hgr : rg ≤ 625 ∧ rg ≤ gr ∧ (rg = 625 ∨ rg = gr)) (hns : hd + ndE g q ≤ 41 + vr) (hsk : SkA K g (B 11) sz nd) (hlp : LpS K (B 16) (B 17) Ag pd lp9 lw cs hd sl hdL slL xb xc) (hrq : RgQx B Q9 gr nd) (hrL : ¬ as9 = -1 → rL) (hlr : LpR K lp9 rL) (hc0 : K.2.2.1 0 q = some q1) (ht0 : K.1 q1 = 1) (hv0 : 1 ≤ g 0 q1 ∧ g 0 q1 + 1 ≤ n) (hc2 : K.2.2.1 2 q = some q3) (ht2 : K.1 q3 = 1) (hv2 : 1 ≤ g 0 q3 ∧ g 0 q3 + 1 ≤ n) (hkd : K.2.1 0 q = 32) (ist : IhZ l G n) (hO : OKP G h0 a (upd (upd (upd (upd (upd (upd (upd (upd F 2 (nI sz)) 5 (nI cs)) 6 (nI rg)) 7 (nI hd)) 8 (nI dp)) 12 (nI vr)) 13 as9) 16 ls9) (updR (updR (updR R 2 (.ref pq)) 3 (.ref mq)) 4 (va_rf lp9)) Z B J K w) (hl0 : l.stackTraces = false) : PBn l G pX0 yX0_tryStatement cX0_tryStatement 11 none ({ frames := (5 * n + 46), cells := ((rE (g 2 q) - rS (g 2 q)) + 1), slots := (6 * (rE (g 2 q) - rS (g 2 q)) + 6), locals := (200 * n + 1120) }) [.ref (a 4), .ref q] w (fun (v : Option Value) (u : va_W × (PK × (Nat → Nat → Int32) × Nat × Int32 × Int32 × Int32 × Nat × (Nat → AS) × Nat × Nat × Int32 × RX × (Nat → Prop) × List Nat × List Nat)) => v = none ∧ (SmW B u.2.2.1 cs) ∧ (BdE K u.2.1) ∧ (BeF K u.2.1) ∧ (BeL K u.2.1 lp9) ∧ (Bth B u.2.2.1) ∧ (BtR B u.2.2.1) ∧ (cs ≤ u.2.2.2.1 ∧ u.2.2.2.1 + 1 ≤ cs + 2 * tlE g q) ∧ (dp ≤ u.2.2.2.2.2.2.2.1 ∧ u.2.2.2.2.2.2.2.1 ≤ 71) ∧ (AsO u.2.2.2.2.1) ∧ (VrS B u.2.2.1 vr) ∧ (gr ≤ u.2.2.2.2.2.2.2.2.2.2.1 ∧ u.2.2.2.2.2.2.2.2.2.1 ≤ 625 ∧ u.2.2.2.2.2.2.2.2.2.1 ≤ u.2.2.2.2.2.2.2.2.2.2.1 ∧ (u.2.2.2.2.2.2.2.2.2.1 = 625 ∨ u.2.2.2.2.2.2.2.2.2.1 = u.2.2.2.2.2.2.2.2.2.2.1)) ∧ (EnV (u.2.2.1 26) (u.2.2.1 27) nd vr hd c0 sl) ∧ (StW pb.1 pb.2.1 pb.2.2.1 pb.2.2.2 Ag u.2.2.2.2.2.2.2.2.1 Q9 u.2.2.2.2.2.2.2.2.2.2.2.2.1 pd u.2.2.2.2.2.2.2.2.2.2.2.2.2.1 m9 u.2.2.2.2.2.2.2.1 lw cs u.2.2.2.1 as9 u.2.2.2.2.1 hd hd sl sl gr u.2.2.2.2.2.2.2.2.2.2.1 (u.2.2.1 16) (u.2.2.1 17) (u.2.2.1 18) (u.2.2.1 19) []) ∧ (LpS u.2.1 (u.2.2.1 16) (u.2.2.1 17) u.2.2.2.2.2.2.2.2.1 u.2.2.2.2.2.2.2.2.2.2.2.2.2.1 lp9 lw u.2.2.2.1 hd sl hdL slL u.2.2.2.2.2.2.2.2.2.2.2.2.2.2.1 u.2.2.2.2.2.2.2.2.2.2.2.2.2.2.2) ∧ (PdS pd u.2.2.2.2.2.2.2.2.2.2.2.2.2.1 xb u.2.2.2.2.2.2.2.2.2.2.2.2.2.2.1 xc u.2.2.2.2.2.2.2.2.2.2.2.2.2.2.2 [] cs u.2.2.2.1) ∧ (RgQx u.2.2.1 u.2.2.2.2.2.2.2.2.2.2.2.2.1 u.2.2.2.2.2.2.2.2.2.2.1 nd) ∧ (LpR u.2.1 lp9 rL) ∧ (OKP G h0 a (upd (upd (upd (upd (upd (upd (upd (upd (upd (upd F 2 (nI sz)) 5 (nI u.2.2.2.1)) 6 (nI u.2.2.2.2.2.2.2.2.2.1)) 7 (nI hd)) 8 (nI u.2.2.2.2.2.2.2.1)) 12 (nI vr)) 13 u.2.2.2.2.1) 14 u.2.2.2.2.2.1) 15 u.2.2.2.2.2.2.1) 16 u.2.2.2.2.2.2.2.2.2.2.2.1) (updR (updR (updR R 2 (.ref pq)) 3 (.ref mq)) 4 (va_rf lp9)) Z u.2.2.1 J u.2.1 u.1)) (fun u => u.1) (fun (u : va_W × (PK × (Nat → Nat → Int32) × Nat × Int32 × Int32 × Int32 × Nat × (Nat → AS) × Nat × Nat × Int32 × RX × (Nat → Prop) × List Nat × List Nat)) => (rE (g 2 q) - rS (g 2 q))) (fun (u : va_W × (PK × (Nat → Nat → Int32) × Nat × Int32 × Int32 × Int32 × Nat × (Nat → AS) × Nat × Nat × Int32 × RX × (Nat → Prop) × List Nat × List Nat)) => (6 * (rE (g 2 q) - rS (g 2 q)))) (fun (u : va_W × (Nat → Int32) × (Nat → Value) × (Nat → Nat → Int32)) => ThQ G h0 a (upd (upd (upd (upd (upd (upd (upd (upd F 2 (nI sz)) 5 (nI cs)) 6 (nI rg)) 7 (nI hd)) 8 (nI dp)) 12 (nI vr)) 13 as9) 16 ls9) (updR (updR (updR R 2 (.ref pq)) 3 (.ref mq)) 4 (va_rf lp9)) Z B J u) (fun u => u.1) := by
  intro sz
  refine vx_ofW (cc := cX0_tryStatement) (maxL := 11) (ret := none) (by decide) rfl ?_
  intro p e s m args below meth c s₁ B9 hml hnt hv
  obtain ⟨rfl, hsz, hP, hD0, hE, hX⟩ := hv
  have hx := B9.exec
  have hb := B9.bytes
  have hr := B9.returns
  have hts := atoms_spec (ws := Cond.code yX0_tryStatement cX0_tryStatement 11 none :: pw) B9.pre
  have hq : ∀ w ∈ pw, w.before _ s = true := fun w h => hts w (List.mem_cons_of_mem _ h)
  have hown : s.vm.findClass RX0 = some m.cls := findClass_of_methodNamed B9.named
  have hlocks := B9.notSynchronized
  subst hsz
  have hD := hD0.self (sz := s.heap.size)
  have hA : ∀ q : Nat, s.heap.size ≤ q → va_A w s.heap.size q := fun q h => Or.inr h
  generalize va_A w s.heap.size = A at hD hE hA ⊢
  have hS : va_S A s.heap s.heap [] := va_S.rf
  have hl := lv_entry ([.ref (a 4), .ref q]) (n := 11) (Nat.le_of_ble_eq_true rfl)
  rw [lg_entry_eq]
  generalize (lg_sl ([.ref (a 4), .ref q]) ++ List.replicate (11 - (lg_sl ([.ref (a 4), .ref q])).length) Slot.unset).toArray = ls at hl ⊢
  replace hl : lv_has ls 11 [(0, .ref (a 4)), (1, .ref q)] := hl
  have hpg := hps.1
  have hp1 := hpg.1
  have hp2 := hpg.2.1
  have hp3 := hpg.2.2.1
  have hp4 := hpg.2.2.2.1
  have hp5 := hpg.2.2.2.2.1
  have hp6 := hpg.2.2.2.2.2.1
  have hp8 := hpg.2.2.2.2.2.2.2.1
  have hp9 := hpg.2.2.2.2.2.2.2.2
  have hdr0 : ¬ K.1 dr = 0 := by rw [hp4]; decide
  have hrl := hrv.1.lt hna.1.1
  have hskq := hsk q hqT hqL.1
  have htlq9 : tlE g q = rE (g 2 q) - rS (g 2 q) := rfl
  have hwfa : WfA (1, hd, sl, ([] : List Nat)) := hem.2.2.1
  have hhdp := hem.2.2.2.1
  have hloc := hem.2.1
  have hst0 : StW pb.1 pb.2.1 pb.2.2.1 pb.2.2.2 Ag Ag Q9 Q9 pd pd m9 dp lw cs cs as9 as9 hd hd sl sl gr gr (B 16) (B 17) (B 18) (B 19) ([] : List Nat) := StW.nil hem
  have hnd := hwp.1 q hqT hqL.1
  have hiq := hnd.it
  have htq : tlE g q = rE (g 2 q) - rS (g 2 q) := rfl
  have hri0 := NdO.iv32a hnd hkd hc0
  have hrx0 := (hwp.1 q1 ht0 hv0.1).it
  have hk1 := NdO.k32 hnd hkd (by decide) (by decide) hc0
  obtain ⟨hs32, hs32c⟩ := hskq.2.2.2.2.2.2.2.2.1 hkd q1 hc0
  have htq1 : tlE g q1 = rE (g 2 q1) - rS (g 2 q1) := rfl
  have hsb := (hskq.2.2.2.2.2.2.2.2.2.2 (Or.inr hkd)).2
  have h379 := hna.1.1
  have hri2 := NdO.iv32c hnd hkd hc2
  have hrx2 := (hwp.1 q3 ht2 hv2.1).it
  have hk3 := NdO.k32 hnd hkd (by decide) (by decide) hc2
  have hs33 := hs32c q3 hc2
  have htq3 : tlE g q3 = rE (g 2 q3) - rS (g 2 q3) := rfl
  refine lv_aload_n hx hb dX0_tryStatement_0 rfl (lv_at hl 1 rfl) ?_
  refine p_get (v := .ref q3) (C := RX7) (Tc := TX7) (N := 11) (ci := 13) hx hb hq pin_wsX70 hown hE hP hO (by rw [hqT]; decide) (rep_1 hqT) rfl 8 (by decide) (hq _ pw_196) (fun _ h9 => h9) (congrArg (fun z => some (va_rf z)) hc2) dX0_tryStatement_1 ?_
  refine lv_ifnull hx hb dX0_tryStatement_4 ?_
  refine lv_iconst (v := 1) hx hb dX0_tryStatement_7 (by decide) ?_
  refine lv_goto (tgt := 12) hx hb dX0_tryStatement_8 (by decide) ?_
  refine lv_istore_n (lv' := [(2, .int 1), (0, .ref (a 4)), (1, .ref q)]) hx hb dX0_tryStatement_12 rfl hl (by decide) rfl (fun ls hl => ?_)
  refine lv_iload_n hx hb dX0_tryStatement_13 rfl (lv_at hl 0 rfl) ?_
  refine lv_if_eq (tgt := 22) hx hb dX0_tryStatement_14 (by decide) (fun c1 => absurd c1 (by decide)) (fun c1 => ?_)
  refine lv_bipush (v := 29) hx hb dX0_tryStatement_17 (by decide) ?_
  refine lv_goto (tgt := 24) hx hb dX0_tryStatement_19 (by decide) ?_
  refine lv_istore_n (lv' := [(3, .int 29), (2, .int 1), (0, .ref (a 4)), (1, .ref q)]) hx hb dX0_tryStatement_24 rfl hl (by decide) rfl (fun ls hl => ?_)
  refine lv_aload_n hx hb dX0_tryStatement_25 rfl (lv_at hl 2 rfl) ?_
  refine c_get (v := .ref (a 2)) (C := RX0) (Tc := TX0) (N := 13) (ci := 0) hx hb hq pin_wsX00 hown hE hP hO 24 (sg_24 G h0 a _ _ _ _ _) rfl 1 (by decide) (hq _ pw_5) (fun _ h9 => h9) rfl dX0_tryStatement_26 ?_
  refine c_get (v := .int (nI hd)) (C := RX1) (Tc := TX1) (N := 13) (ci := 1) hx hb hq pin_wsX10 hown hE hP hO 13 (sg_13 G h0 a _ _ _ _ _) rfl 11 (by decide) (hq _ pw_54) (fun _ h9 => h9) rfl dX0_tryStatement_29 ?_
  refine lv_istore (lv' := [(4, .int (nI hd)), (3, .int 29), (2, .int 1), (0, .ref (a 4)), (1, .ref q)]) hx hb dX0_tryStatement_32 hl (by decide) rfl (fun ls hl => ?_)
  refine lv_aload_n hx hb dX0_tryStatement_34 rfl (lv_at hl 3 rfl) ?_
  refine c_get (v := .int as9) (C := RX0) (Tc := TX0) (N := 13) (ci := 0) hx hb hq pin_wsX00 hown hE hP hO 24 (sg_24 G h0 a _ _ _ _ _) rfl 8 (by decide) (hq _ pw_55) (fun _ h9 => h9) rfl dX0_tryStatement_35 ?_
  refine lv_istore (lv' := [(5, .int as9), (4, .int (nI hd)), (3, .int 29), (2, .int 1), (0, .ref (a 4)), (1, .ref q)]) hx hb dX0_tryStatement_38 hl (by decide) rfl (fun ls hl => ?_)
  refine lv_aload_n hx hb dX0_tryStatement_40 rfl (lv_at hl 4 rfl) ?_
  refine lv_dup hx hb dX0_tryStatement_41 rfl ?_
  refine c_get (v := .int ls9) (C := RX0) (Tc := TX0) (N := 13) (ci := 0) hx hb hq pin_wsX00 hown hE hP hO 24 (sg_24 G h0 a _ _ _ _ _) rfl 12 (by decide) (hq _ pw_74) (fun _ h9 => h9) rfl dX0_tryStatement_42 ?_
  refine lv_iload_n hx hb dX0_tryStatement_45 rfl (lv_at hl 3 rfl) ?_
  refine lv_if_eq (tgt := 53) hx hb dX0_tryStatement_46 (by decide) (fun c2 => absurd c2 (by decide)) (fun c2 => ?_)
  refine lv_iconst (v := 1) hx hb dX0_tryStatement_49 (by decide) ?_
  refine lv_goto (tgt := 54) hx hb dX0_tryStatement_50 (by decide) ?_
  refine lv_iadd hx hb dX0_tryStatement_54 ?_
  refine lv_topi (fun x3 e4 => ?_)
  refine c_put (v := .int x3) (ty := .int) (C := RX0) (Tc := TX0) (N := 13) (ci := 0) hx hb hq pin_wsX00 tyX0 tyX0_ok nmX0 hown hE hP hD hS hO 24 (sg_24 G h0 a _ _ _ _ _) rfl 12 (by decide) (hq _ pw_74) (fun _ h9 => h9) rfl (by decide +kernel) rfl rfl (Nat.le_of_ble_eq_true rfl) (sf_16 G h0 a _ _ _ _ _ x3) dX0_tryStatement_55 (fun H locs w hP hD hS hO => ?_)
  refine lv_aload_n hx hb dX0_tryStatement_58 rfl (lv_at hl 4 rfl) ?_
  refine c_get (v := .ref (a 2)) (C := RX0) (Tc := TX0) (N := 13) (ci := 0) hx hb hq pin_wsX00 hown hE hP hO 24 (sg_24 G h0 a _ _ _ _ _) rfl 1 (by decide) (hq _ pw_5) (fun _ h9 => h9) rfl dX0_tryStatement_59 ?_
  refine c_get (v := .int (nI cs)) (C := RX1) (Tc := TX1) (N := 13) (ci := 1) hx hb hq pin_wsX10 hown hE hP hO 13 (sg_13 G h0 a _ _ _ _ _) rfl 4 (by decide) (hq _ pw_75) (fun _ h9 => h9) rfl dX0_tryStatement_62 ?_
  refine lv_istore (lv' := [(6, .int (nI cs)), (5, .int as9), (4, .int (nI hd)), (3, .int 29), (2, .int 1), (0, .ref (a 4)), (1, .ref q)]) hx hb dX0_tryStatement_65 hl (by decide) rfl (fun ls hl => ?_)
  refine lv_aload_n hx hb dX0_tryStatement_67 rfl (lv_at hl 5 rfl) ?_
  refine lv_aload_n hx hb dX0_tryStatement_68 rfl (lv_at hl 6 rfl) ?_
  refine p_get (v := .ref q1) (C := RX7) (Tc := TX7) (N := 11) (ci := 13) hx hb hq pin_wsX70 hown hE hP hO (by rw [hqT]; decide) (rep_1 hqT) rfl 6 (by decide) (hq _ pw_180) (fun _ h9 => h9) (congrArg (fun z => some (va_rf z)) hc0) dX0_tryStatement_69 ?_
  have htl5 : tlE g q1 = rE (g 2 q1) - rS (g 2 q1) := rfl
  have hO : OKP G h0 a (upd (upd (upd (upd (upd (upd (upd (upd (upd (upd (upd (upd (upd (upd (upd (upd (upd F 2 (nI sz)) 5 (nI cs)) 6 (nI rg)) 7 (nI hd)) 8 (nI dp)) 12 (nI vr)) 13 as9) 16 ls9) 16 x3) 2 (nI sz)) 5 (nI cs)) 6 (nI rg)) 7 (nI hd)) 8 (nI dp)) 12 (nI vr)) 13 as9) 16 x3) (updR (updR (updR (updR (updR (updR R 2 (.ref pq)) 3 (.ref mq)) 4 (va_rf lp9)) 2 (.ref pq)) 3 (.ref mq)) 4 (va_rf lp9)) Z B J K w := hO.to rfl
  obtain ⟨_, qr9, hqr10⟩ := hO.2.1 24 _ (sg_24 G h0 a _ _ _ _ _)
  refine pn_V0 (G := G) (As := [.ref q1]) (rest := []) hx hb hml hown hq hE hX pX0_al hP hD hS hA hl.1 (Y_block l G h0 a (upd (upd (upd (upd (upd (upd (upd (upd (upd F 2 (nI sz)) 5 (nI cs)) 6 (nI rg)) 7 (nI hd)) 8 (nI dp)) 12 (nI vr)) 13 as9) 16 ls9) 16 x3) (updR (updR (updR R 2 (.ref pq)) 3 (.ref mq)) 4 (va_rf lp9)) Z B J K w pq dr ml nd nm cp it s9 q1 mq cs vr sz (n - 1) hd dp rg x3 lp9 g rk pb Ag Q9 pd sl m9 lw c0 rt gr as9 hdL slL xb xc rL (by omega) (BdE.wp BdE.rfl hwp) (BdE.pt BdE.rfl hwp hps) (BdE.rko BdE.rfl hrk) (by omega) (by omega) hng hmq ht0 ⟨hv0.1, (by have z9 := hv0; omega)⟩ hrt hrv (by omega) (by omega) (by omega) (LpO.be BdE.rfl hlo) (EkA.be BdE.rfl (BtR.rfl 7 (by decide)) (BtR.rfl 11 (by decide)) hek) (OwC.be BdE.rfl hmq hdr0 hcO) (NaB.be BdE.rfl BeF.rfl hwp hps.2.1 hdr0 (BtR.rfl 11 (by decide)) hna) hen hao hst0.1 (by omega) (by omega) (by omega) (SkA.be BdE.rfl (BtR.rfl 11 (by decide)) hsk) hlp hrq (fun z9 => hrL (hst0.2.2.2.2.2.1 z9)) hlr hk1 (IhZ.lo ist) hO hl0) (gV pw_307 pw_308 pw_309 pw_63 pw_358) hV_X0_block qr9 0 hqr10 rfl rfl rfl (Nat.le_of_ble_eq_true rfl) dX0_tryStatement_72 ⟨(by show 0 + ((rE (g 2 q1) - rS (g 2 q1) - 2) + 1) ≤ ((rE (g 2 q) - rS (g 2 q)) + 1); omega), (by show 0 + (6 * (rE (g 2 q1) - rS (g 2 q1) - 2) + 6) ≤ (6 * (rE (g 2 q) - rS (g 2 q)) + 6); omega)⟩ ⟨(by show (5 * (n - 1) + 46) + 1 ≤ (5 * n + 46); omega), (by show 8 + (5 + 11) + (200 * (n - 1) + 1120) ≤ (200 * n + 1120); omega)⟩ (fun v8 u6 H locs hw7 hP hD hS => ?_) (fun ux ce9 q9 H9 locs9 hux hP9 hD9 hS9 hce hcv hcl => pb_out ux (ThQ.up (Thx.same (Thx.same (Thx.same (Thx.same (Thx.same (Thx.same (Thx.same (Thx.same (Thx.f Thx.rfl (by omega)) rfl) rfl) rfl) rfl) rfl) rfl) rfl) rfl) (show RhX (updR (updR (updR R 2 (.ref pq)) 3 (.ref mq)) 4 (va_rf lp9)) (updR (updR (updR (updR (updR (updR R 2 (.ref pq)) 3 (.ref mq)) 4 (va_rf lp9)) 2 (.ref pq)) 3 (.ref mq)) 4 (va_rf lp9)) from fun k9 hk9 => by unfold updR; simp only [show ¬ k9 = 1 by omega, show ¬ k9 = 2 by omega, show ¬ k9 = 3 by omega, show ¬ k9 = 4 by omega, if_false]) hux) hnt hlocks hce hcv hcl hP9 hD9 hS9 (by show 0 + ((rE (g 2 q1) - rS (g 2 q1) - 2) + 1) ≤ ((rE (g 2 q) - rS (g 2 q)) + 1); omega) (by show 0 + (6 * (rE (g 2 q1) - rS (g 2 q1) - 2) + 6) ≤ (6 * (rE (g 2 q) - rS (g 2 q)) + 6); omega))
  obtain ⟨w, K11, B12, cs13, as14, wt15, wf16, dp17, Ag18, rg19, gr20, ls21, Q22, pd23, xb24, xc25⟩ := u6
  obtain ⟨hw7, h26, h27, h28, h29, h30, h31, h32, h33, h34, h35, h36, h37, h38, h39, h40, h41, h42, hO⟩ := hw7
  replace h26 : SmW B B12 cs := h26
  replace h27 : BdE K K11 := h27
  replace h28 : BeF K K11 := h28
  replace h29 : BeL K K11 lp9 := h29
  replace h30 : Bth B B12 := h30
  replace h31 : BtR B B12 := h31
  replace h32 : cs ≤ cs13 ∧ cs13 + 4 ≤ cs + 2 * tlE g q1 := h32
  replace h33 : dp ≤ dp17 ∧ dp17 ≤ 71 := h33
  replace h34 : AsO as14 := h34
  replace h35 : VrS B B12 vr := h35
  replace h36 : gr ≤ gr20 ∧ rg19 ≤ 625 ∧ rg19 ≤ gr20 ∧ (rg19 = 625 ∨ rg19 = gr20) := h36
  replace h37 : EnV (B12 26) (B12 27) nd vr hd c0 sl := h37
  replace h38 : StW pb.1 pb.2.1 pb.2.2.1 pb.2.2.2 Ag Ag18 Q9 Q22 pd pd23 m9 dp17 lw cs cs13 as9 as14 hd hd sl sl gr gr20 (B12 16) (B12 17) (B12 18) (B12 19) [] := h38
  replace h39 : LpS K11 (B12 16) (B12 17) Ag18 pd23 lp9 lw cs13 hd sl hdL slL xb24 xc25 := h39
  replace h40 : PdS pd pd23 xb xb24 xc xc25 [] cs cs13 := h40
  replace h41 : RgQx B12 Q22 gr20 nd := h41
  replace h42 : LpR K11 lp9 rL := h42
  obtain rfl : v8 = none := hw7
  have hf43 : K11.1 pq = 7 := (BdE.T h27 hp1 (by decide))
  have hf44 : K11.2.2.1 18 pq = some (a 1) := (BdE.C h27 (by rw [hp1]; decide) 18).trans hp2
  have hf45 : K11.2.2.1 14 pq = some dr := (BdE.C h27 (by rw [hp1]; decide) 14).trans hp3
  have hf46 : K11.1 dr = 8 := (BdE.T h27 hp4 (by decide))
  have hf47 : K11.2.2.1 15 pq = some ml := (BdE.C h27 (by rw [hp1]; decide) 15).trans hp5
  have hf48 : K11.1 ml = 5 := (BdE.T h27 hp6 (by decide))
  have hf49 : K11.2.1 24 pq = (nI nd) := (BdE.I h27 (by rw [hp1]; decide) (by decide) (by decide)).trans hp8
  have hf50 : K11.1 q = 1 := (BdE.T h27 hqT (by decide))
  have hf51 : K11.1 mq = 3 := (BdE.T h27 hmq (by decide))
  have hf52 : K11.2.1 10 mq = (nI rt) := (BdE.I h27 (by rw [hmq]; decide) (by decide) (by decide)).trans hrt
  have hf53 : K11.2.2.1 0 q = some q1 := (BdE.C h27 (by rw [hqT]; decide) 0).trans hc0
  have hf54 : K11.1 q1 = 1 := (BdE.T h27 ht0 (by decide))
  have hf55 : K11.2.2.1 2 q = some q3 := (BdE.C h27 (by rw [hqT]; decide) 2).trans hc2
  have hf56 : K11.1 q3 = 1 := (BdE.T h27 ht2 (by decide))
  have hf57 : K11.2.1 0 q1 = 21 := (BdE.I h27 (by rw [ht0]; decide) (by decide) (by decide)).trans hk1
  have hf58 : K11.2.1 0 q3 = 21 := (BdE.I h27 (by rw [ht2]; decide) (by decide) (by decide)).trans hk3
  have hf59 : K11.2.1 0 q = 32 := (BdE.I h27 (by rw [hqT]; decide) (by decide) (by decide)).trans hkd
  have hO : OKP G h0 a (upd (upd (upd (upd (upd (upd (upd (upd (upd (upd F 2 (nI sz)) 5 (nI cs13)) 6 (nI rg19)) 7 (nI hd)) 8 (nI dp17)) 12 (nI vr)) 13 as14) 14 wt15) 15 wf16) 16 ls21) (updR (updR (updR R 2 (.ref pq)) 3 (.ref mq)) 4 (va_rf lp9)) Z B12 J K11 w := hO.to rfl
  refine W.widen (k := (rE (g 2 q1) - rS (g 2 q1) - 2)) (n := (6 * (rE (g 2 q1) - rS (g 2 q1) - 2))) (by show 0 + (rE (g 2 q1) - rS (g 2 q1) - 2) ≤ (rE (g 2 q1) - rS (g 2 q1) - 2); omega) (by show 0 + (6 * (rE (g 2 q1) - rS (g 2 q1) - 2)) ≤ (6 * (rE (g 2 q1) - rS (g 2 q1) - 2)); omega) ?_
  refine W.eq (g2 := F0 m 75 ls []) rfl ?_
  have hbe60 := BdE.trans BdE.rfl h27
  have hbb61 : Bth B B12 := Bth.trans (show Thx (upd (upd (upd (upd (upd (upd (upd (upd F 2 (nI sz)) 5 (nI cs)) 6 (nI rg)) 7 (nI hd)) 8 (nI dp)) 12 (nI vr)) 13 as9) 16 ls9) (upd (upd (upd (upd (upd (upd (upd (upd (upd F 2 (nI sz)) 5 (nI cs)) 6 (nI rg)) 7 (nI hd)) 8 (nI dp)) 12 (nI vr)) 13 as9) 16 ls9) 16 x3) B B from (Thx.f Thx.rfl (by omega))).2 h30
  have hng62 : Nng (B12 18) := h30.2 hng
  have hsw63 : ∀ x9 : Nat, x9 < cs → (B12 16) x9 = B 16 x9 := fun x9 hx9 => ((h26 x9 (by omega)).1).trans ((fun _ _ => rfl) x9 hx9)
  have hsw64 : ∀ x9 : Nat, x9 < cs → (B12 17) x9 = B 17 x9 := fun x9 hx9 => ((h26 x9 (by omega)).2.1).trans ((fun _ _ => rfl) x9 hx9)
  have hsw65 : ∀ x9 : Nat, x9 < cs → (B12 18) x9 = B 18 x9 := fun x9 hx9 => ((h26 x9 (by omega)).2.2.1).trans ((fun _ _ => rfl) x9 hx9)
  have hsw66 : ∀ x9 : Nat, x9 < cs → (B12 19) x9 = B 19 x9 := fun x9 hx9 => ((h26 x9 (by omega)).2.2.2).trans ((fun _ _ => rfl) x9 hx9)
  have hbf67 := BeF.trans BeF.rfl h28 BdE.rfl
  have hbl69 : BeL K K11 lp9 := BeL.trans BeL.rfl h29 BdE.rfl
  have hbr68 : BtR B B12 := BtR.trans BtR.rfl h31
  have hvs70 : VrS B B12 vr := VrS.trans VrS.rfl h35 (by omega)
  have hst71 : StW pb.1 pb.2.1 pb.2.2.1 pb.2.2.2 Ag Ag18 Q9 Q22 pd pd23 m9 dp17 lw cs cs13 as9 as14 hd hd sl sl gr gr20 (B12 16) (B12 17) (B12 18) (B12 19) ([] : List Nat) := StW.seq hst0 (by omega) (fun x9 hx9 => ⟨(h26 x9 hx9).1, (h26 x9 hx9).2.1⟩) h38
  have hsn72 := hst71.1.2.2.2.1
  have hpd73 : PdS pd pd23 xb xb24 xc xc25 ([] : List Nat) cs cs13 := PdS.call (PdS.rfl (cs1 := cs)) h40 (by omega) (by omega)
  refine lv_aload_n hx hb dX0_tryStatement_75 rfl (lv_at hl 5 rfl) ?_
  refine c_get (v := .ref (a 2)) (C := RX0) (Tc := TX0) (N := 13) (ci := 0) hx hb hq pin_wsX00 hown hE hP hO 24 (sg_24 G h0 a _ _ _ _ _) rfl 1 (by decide) (hq _ pw_5) (fun _ h9 => h9) rfl dX0_tryStatement_76 ?_
  refine c_get (v := .int (nI cs13)) (C := RX1) (Tc := TX1) (N := 13) (ci := 1) hx hb hq pin_wsX10 hown hE hP hO 13 (sg_13 G h0 a _ _ _ _ _) rfl 4 (by decide) (hq _ pw_75) (fun _ h9 => h9) rfl dX0_tryStatement_79 ?_
  refine lv_istore (lv' := [(7, .int (nI cs13)), (6, .int (nI cs)), (5, .int as9), (4, .int (nI hd)), (3, .int 29), (2, .int 1), (0, .ref (a 4)), (1, .ref q)]) hx hb dX0_tryStatement_82 hl (by decide) rfl (fun ls hl => ?_)
  refine lv_aload_n hx hb dX0_tryStatement_84 rfl (lv_at hl 6 rfl) ?_
  refine c_get (v := .ref (a 2)) (C := RX0) (Tc := TX0) (N := 13) (ci := 0) hx hb hq pin_wsX00 hown hE hP hO 24 (sg_24 G h0 a _ _ _ _ _) rfl 1 (by decide) (hq _ pw_5) (fun _ h9 => h9) rfl dX0_tryStatement_85 ?_
  refine lv_iload_n hx hb dX0_tryStatement_88 rfl (lv_at hl 4 rfl) ?_
  refine lv_iconst (v := (-1)) hx hb dX0_tryStatement_89 (by decide) ?_
  refine lv_iload hx hb dX0_tryStatement_90 (lv_at hl 3 rfl) ?_
  have hO : OKW G h0 a (upd (upd (upd (upd (upd (upd (upd (upd (upd (upd (upd (upd F 2 (nI sz)) 5 (nI cs13)) 6 (nI rg19)) 7 (nI hd)) 8 (nI dp17)) 12 (nI vr)) 13 as14) 14 wt15) 15 wf16) 16 ls21) 5 (nI cs13)) 7 (nI hd)) (updR (updR (updR R 2 (.ref pq)) 3 (.ref mq)) 4 (va_rf lp9)) Z B12 J K11.1 (fun q99 x99 => x99 = rep G a K11 q99) w := hO.to rfl
  obtain ⟨_, qr77, hqr78⟩ := hO.2.1 13 _ (sg_13 G h0 a _ _ _ _ _)
  refine pc_V0 (G := G) (As := [.int 29, .int (-1), .int (nI hd)]) (rest := []) hx hb hml hown hq hE hX pX0_al hP hD hS hA hl.1 (Y_jump l G h0 a (upd (upd (upd (upd (upd (upd (upd (upd (upd (upd F 2 (nI sz)) 5 (nI cs13)) 6 (nI rg19)) 7 (nI hd)) 8 (nI dp17)) 12 (nI vr)) 13 as14) 14 wt15) 15 wf16) 16 ls21) (updR (updR (updR R 2 (.ref pq)) 3 (.ref mq)) 4 (va_rf lp9)) Z B12 J K11.1 (fun q99 x99 => x99 = rep G a K11 q99) w 29 (-1) (nI hd) cs13 hd (by omega) hO) (gV pw_197 pw_198 pw_199 pw_70 pw_132) hV_X1_jump qr77 1 hqr78 rfl rfl rfl (Nat.le_of_ble_eq_true rfl) dX0_tryStatement_92 ⟨(by show (rE (g 2 q1) - rS (g 2 q1) - 2) + 0 ≤ ((rE (g 2 q) - rS (g 2 q)) + 1); omega), (by show (6 * (rE (g 2 q1) - rS (g 2 q1) - 2)) + 0 ≤ (6 * (rE (g 2 q) - rS (g 2 q)) + 6); omega)⟩ ⟨(by show 3 + 1 ≤ (5 * n + 46); omega), (by show 8 + (4 + 11) + 83 ≤ (200 * n + 1120); omega)⟩ (fun v76 u74 H locs hw75 hP hD hS => ?_)
  obtain ⟨w, _⟩ := u74
  obtain ⟨hw75, hO⟩ := hw75
  obtain rfl : v76 = some (.int (nI cs13)) := hw75
  have hO : OKP G h0 a (upd (upd (upd (upd (upd (upd (upd (upd (upd (upd F 2 (nI sz)) 5 (nI (cs13 + 1))) 6 (nI rg19)) 7 (nI hd)) 8 (nI dp17)) 12 (nI vr)) 13 as14) 14 wt15) 15 wf16) 16 ls21) (updR (updR (updR R 2 (.ref pq)) 3 (.ref mq)) 4 (va_rf lp9)) Z (updA (updA (updA (updA B12 16 (upd ((B12 16)) cs13 29)) 17 (upd ((B12 17)) cs13 (-1))) 18 (upd ((B12 18)) cs13 (nI hd))) 19 (upd ((B12 19)) cs13 (nI hd))) J K11 w := hO.to rfl
  refine W.widen (k := (rE (g 2 q1) - rS (g 2 q1) - 2)) (n := (6 * (rE (g 2 q1) - rS (g 2 q1) - 2))) (by show (rE (g 2 q1) - rS (g 2 q1) - 2) + 0 ≤ (rE (g 2 q1) - rS (g 2 q1) - 2); omega) (by show (6 * (rE (g 2 q1) - rS (g 2 q1) - 2)) + 0 ≤ (6 * (rE (g 2 q1) - rS (g 2 q1) - 2)); omega) ?_
  refine W.eq (g2 := F0 m 95 ls [.int (nI cs13)]) rfl ?_
  have hsw79 : ∀ x9 : Nat, x9 < cs → (upd ((B12 16)) cs13 29) x9 = B 16 x9 := fun x9 hx9 => (if_neg (by omega)).trans (hsw63 x9 hx9)
  have hsw80 : ∀ x9 : Nat, x9 < cs → (upd ((B12 17)) cs13 (-1)) x9 = B 17 x9 := fun x9 hx9 => (if_neg (by omega)).trans (hsw64 x9 hx9)
  have hsw81 : ∀ x9 : Nat, x9 < cs → (upd ((B12 18)) cs13 (nI hd)) x9 = B 18 x9 := fun x9 hx9 => (if_neg (by omega)).trans (hsw65 x9 hx9)
  have hsw82 : ∀ x9 : Nat, x9 < cs → (upd ((B12 19)) cs13 (nI hd)) x9 = B 19 x9 := fun x9 hx9 => (if_neg (by omega)).trans (hsw66 x9 hx9)
  obtain ⟨Ag83, hst84, hag85⟩ : ∃ A5 : Nat → AS, StW pb.1 pb.2.1 pb.2.2.1 pb.2.2.2 Ag A5 Q9 Q22 pd (fun z => pd23 z ∨ z = cs13) m9 dp17 lw cs (cs13 + 1) as9 (-1) hd hd sl sl gr gr20 (upd ((B12 16)) cs13 29) (upd ((B12 17)) cs13 (-1)) (upd ((B12 18)) cs13 (nI hd)) (upd ((B12 19)) cs13 (nI hd)) ([] : List Nat) ∧ ∀ x9 : Nat, x9 ≤ cs13 → A5 x9 = Ag18 x9 := ⟨(upS Ag18 (cs13 + 1) (rcA (-1), hd, sl, ([] : List Nat))), StW.jmp (k := 29) hst71 (by show 0 ≤ 248; omega) (by decide) (fun z9 hz9 => ⟨fun h9 => Or.inl h9, fun h9 => h9.resolve_right (by omega)⟩) (Or.inr rfl) (fun z9 => absurd rfl z9), fun x9 hx9 => upS_ne (by omega)⟩
  have hlp86 : LpS K11 (upd ((B12 16)) cs13 29) (upd ((B12 17)) cs13 (-1)) Ag83 (fun z => pd23 z ∨ z = cs13) lp9 lw (cs13 + 1) hd sl hdL slL xb24 xc25 := LpS.same h39 (fun _ _ _ _ _ => rfl) (fun z9 hz9 => ⟨if_neg (by omega), if_neg (by omega), hag85 z9 (by omega)⟩) (fun _ h9 => Or.inl h9) (fun z9 h9 => h9.elim (fun h8 => Nat.lt_succ_of_lt (h39.1 z9 h8)) (fun h8 => by omega)) (by omega) ⟨Nat.le_refl _, fun _ _ => rfl⟩
  have hng87 : Nng (upd ((B12 18)) cs13 (nI hd)) := Nng.set hng62 (k := hd) (by omega)
  have hpd88 : PdS pd (fun z => pd23 z ∨ z = cs13) xb xb24 xc xc25 (cs13 :: ([] : List Nat)) cs (cs13 + 1) := PdS.jmp hpd73 (LpS.lt h39).1 (LpS.lt h39).2 (by omega)
  have hj89 : (upd ((B12 16)) cs13 29) cs13 = (nI 29) := if_pos rfl
  have hj90 : (upd ((B12 17)) cs13 (-1)) cs13 = ((-1) : Int32) := if_pos rfl
  have hj91 : (upd ((B12 18)) cs13 (nI hd)) cs13 = (nI hd) := if_pos rfl
  have hj92 : Ag83 cs13 = (rcA as14, hd, sl, ([] : List Nat)) := (hag85 cs13 (Nat.le_refl _)).trans hst71.1.1.2
  have hj93 : Ag83 (cs13 + 1) = (rcA (-1), hd, sl, ([] : List Nat)) := hst84.1.1.2
  have hai0 : AiL Ag83 (upd ((B12 16)) cs13 29) (upd ((B12 17)) cs13 (-1)) (fun z => pd23 z ∨ z = cs13) cs (cs13 + 1) := StW.ail (k := 29) hst71 hj89 ⟨by decide, by decide⟩ (fun x9 hx9 => ⟨hag85 x9 (by omega), if_neg (by omega), if_neg (by omega), ⟨fun h9 => h9.resolve_right (by omega), Or.inl⟩⟩)
  have hch0 : ChnJ (upd ((B12 17)) cs13 (-1)) (nI cs13) (cs13 :: ([] : List Nat)) := ChnJ.one hj90 (by omega)
  have hjw94 : EntJ (upd ((B12 16)) cs13 29) (upd ((B12 18)) cs13 (nI hd)) Ag83 (cs13 :: ([] : List Nat)) lw (cs13 + 1) hd sl as14 := EntJ.cons (cs := cs13 + 1) EntJ.nil ⟨by omega, by omega, hj89, hj91, fun z9 => by rw [hj92] at z9 ⊢; exact ⟨ (rcA_of z9), rfl, (fun _ _ => rfl), rfl⟩⟩ (fun _ _ => ⟨rfl, rfl, rfl⟩) (by omega) (fun z9 => z9)
  have hb90 : AsO as14 ∧ (¬ as14 = -1 → ¬ as9 = -1) := ⟨h34, hst71.2.2.2.2.2.1⟩
  refine lv_istore (lv' := [(8, .int (nI cs13)), (7, .int (nI cs13)), (6, .int (nI cs)), (5, .int as9), (4, .int (nI hd)), (3, .int 29), (2, .int 1), (0, .ref (a 4)), (1, .ref q)]) hx hb dX0_tryStatement_95 hl (by decide) rfl (fun ls hl => ?_)
  refine lv_aload_n hx hb dX0_tryStatement_97 rfl (lv_at hl 7 rfl) ?_
  refine c_get (v := .int as14) (C := RX0) (Tc := TX0) (N := 13) (ci := 0) hx hb hq pin_wsX00 hown hE hP hO 24 (sg_24 G h0 a _ _ _ _ _) rfl 8 (by decide) (hq _ pw_55) (fun _ h9 => h9) rfl dX0_tryStatement_98 ?_
  refine lv_istore (lv' := [(9, .int as14), (8, .int (nI cs13)), (7, .int (nI cs13)), (6, .int (nI cs)), (5, .int as9), (4, .int (nI hd)), (3, .int 29), (2, .int 1), (0, .ref (a 4)), (1, .ref q)]) hx hb dX0_tryStatement_101 hl (by decide) rfl (fun ls hl => ?_)
  have loop_g : ∀ (n_g : Nat) (k2 : Nat) (o2 : Option Nat) (K2 : PK) (B2 : Nat → Nat → Int32) (cs2 : Nat) (as2 : Int32) (wt2 : Int32) (wf2 : Int32) (dp2 : Nat) (rg2 : Nat) (gr2 : Nat) (ls2 : Int32) (A2 : Nat → AS) (sl2 : Nat → Nat) (Q2 : RX) (pd2 : Nat → Prop) (xb2 : List Nat) (xc2 : List Nat) (t2 : Nat) (c2 : Nat) (e7 : Nat) (b8 : Int32) (b9 : Int32) (xs2 : List Nat) (H : Heap) (locs : List Loc) (ls : Array Slot) (w : va_W), k2 ≤ 1000000000000000000000001 → 1000000000000000000000001 + 1 ≤ k2 + n_g → (BdE K K2) → (BeF K K2) → (BeL K K2 lp9) → (BtR B B2) → (Bth B B2) → (Nng (B2 18)) → (SmW B B2 cs) → (VrS B B2 vr) → (AsO as2) → (dp ≤ dp2 ∧ dp2 ≤ 71) → (gr ≤ gr2 ∧ rg2 ≤ 625 ∧ rg2 ≤ gr2 ∧ (rg2 = 625 ∨ rg2 = gr2)) → (StW pb.1 pb.2.1 pb.2.2.1 pb.2.2.2 Ag A2 Q9 Q2 pd pd2 m9 dp2 lw cs cs2 as9 (-1) hd hd sl sl2 gr gr2 (B2 16) (B2 17) (B2 18) (B2 19) ([] : List Nat)) → (LpS (K2) (B2 16) (B2 17) (A2) (pd2) lp9 lw (cs2) hd (sl2) hdL slL (xb2) (xc2)) → (PdS pd pd2 xb xb2 xc xc2 xs2 cs cs2) → (RgQx B2 Q2 gr2 nd) → (LpR K2 lp9 rL) → (EnV (B2 26) (B2 27) nd vr hd c0 sl) → (AiL A2 (B2 16) (B2 17) pd2 cs cs2) → (ChnJ (B2 17) b8 xs2) → (EntJ (B2 16) (B2 18) A2 xs2 lw cs2 hd sl b9) → (AsO b9 ∧ (¬ b9 = -1 → ¬ as9 = -1)) → (MmO K2 g q o2 t2 k2) → (c2 + rS (g 2 q) ≤ t2 ∧ t2 ≤ rN (g 2 q)) → (cs ≤ e7 ∧ e7 < cs2 ∧ cs2 + 5 ≤ cs + 2 * (t2 - rS (g 2 q))) → va_P G.1 pCl w H → va_D A w → va_S A s.heap H locs → OKP G h0 a (upd (upd (upd (upd (upd (upd (upd (upd (upd (upd F 2 (nI sz)) 5 (nI cs2)) 6 (nI rg2)) 7 (nI hd)) 8 (nI dp2)) 12 (nI vr)) 13 as2) 14 wt2) 15 wf2) 16 ls2) (updR (updR (updR R 2 (.ref pq)) 3 (.ref mq)) 4 (va_rf lp9)) Z B2 J K2 w → lv_has ls 11 [(10, va_rf o2), (9, .int b9), (8, .int b8), (7, .int (nI e7)), (6, .int (nI cs)), (5, .int as9), (4, .int (nI hd)), (3, .int 29), (2, .int 1), (1, .ref q), (0, .ref (a 4))] → W p l e (headSpec (Cond.code yX0_tryStatement cX0_tryStatement 11 none :: pw) ({ frames := (5 * n + 46), cells := ((rE (g 2 q) - rS (g 2 q)) + 1), slots := (6 * (rE (g 2 q) - rS (g 2 q)) + 6), locals := (200 * n + 1120) } : Room)).room s m ([.ref (a 4), .ref q] : List Value).toArray below meth c H locs c2 (6 * c2) (vx_MQ below (pQn G A (fun (v : Option Value) (u : va_W × (PK × (Nat → Nat → Int32) × Nat × Int32 × Int32 × Int32 × Nat × (Nat → AS) × Nat × Nat × Int32 × RX × (Nat → Prop) × List Nat × List Nat)) => v = none ∧ (SmW B u.2.2.1 cs) ∧ (BdE K u.2.1) ∧ (BeF K u.2.1) ∧ (BeL K u.2.1 lp9) ∧ (Bth B u.2.2.1) ∧ (BtR B u.2.2.1) ∧ (cs ≤ u.2.2.2.1 ∧ u.2.2.2.1 + 1 ≤ cs + 2 * tlE g q) ∧ (dp ≤ u.2.2.2.2.2.2.2.1 ∧ u.2.2.2.2.2.2.2.1 ≤ 71) ∧ (AsO u.2.2.2.2.1) ∧ (VrS B u.2.2.1 vr) ∧ (gr ≤ u.2.2.2.2.2.2.2.2.2.2.1 ∧ u.2.2.2.2.2.2.2.2.2.1 ≤ 625 ∧ u.2.2.2.2.2.2.2.2.2.1 ≤ u.2.2.2.2.2.2.2.2.2.2.1 ∧ (u.2.2.2.2.2.2.2.2.2.1 = 625 ∨ u.2.2.2.2.2.2.2.2.2.1 = u.2.2.2.2.2.2.2.2.2.2.1)) ∧ (EnV (u.2.2.1 26) (u.2.2.1 27) nd vr hd c0 sl) ∧ (StW pb.1 pb.2.1 pb.2.2.1 pb.2.2.2 Ag u.2.2.2.2.2.2.2.2.1 Q9 u.2.2.2.2.2.2.2.2.2.2.2.2.1 pd u.2.2.2.2.2.2.2.2.2.2.2.2.2.1 m9 u.2.2.2.2.2.2.2.1 lw cs u.2.2.2.1 as9 u.2.2.2.2.1 hd hd sl sl gr u.2.2.2.2.2.2.2.2.2.2.1 (u.2.2.1 16) (u.2.2.1 17) (u.2.2.1 18) (u.2.2.1 19) []) ∧ (LpS u.2.1 (u.2.2.1 16) (u.2.2.1 17) u.2.2.2.2.2.2.2.2.1 u.2.2.2.2.2.2.2.2.2.2.2.2.2.1 lp9 lw u.2.2.2.1 hd sl hdL slL u.2.2.2.2.2.2.2.2.2.2.2.2.2.2.1 u.2.2.2.2.2.2.2.2.2.2.2.2.2.2.2) ∧ (PdS pd u.2.2.2.2.2.2.2.2.2.2.2.2.2.1 xb u.2.2.2.2.2.2.2.2.2.2.2.2.2.2.1 xc u.2.2.2.2.2.2.2.2.2.2.2.2.2.2.2 [] cs u.2.2.2.1) ∧ (RgQx u.2.2.1 u.2.2.2.2.2.2.2.2.2.2.2.2.1 u.2.2.2.2.2.2.2.2.2.2.1 nd) ∧ (LpR u.2.1 lp9 rL) ∧ (OKP G h0 a (upd (upd (upd (upd (upd (upd (upd (upd (upd (upd F 2 (nI sz)) 5 (nI u.2.2.2.1)) 6 (nI u.2.2.2.2.2.2.2.2.2.1)) 7 (nI hd)) 8 (nI u.2.2.2.2.2.2.2.1)) 12 (nI vr)) 13 u.2.2.2.2.1) 14 u.2.2.2.2.2.1) 15 u.2.2.2.2.2.2.1) 16 u.2.2.2.2.2.2.2.2.2.2.2.1) (updR (updR (updR R 2 (.ref pq)) 3 (.ref mq)) 4 (va_rf lp9)) Z u.2.2.1 J u.2.1 u.1)) (fun u => u.1) (fun (u : va_W × (PK × (Nat → Nat → Int32) × Nat × Int32 × Int32 × Int32 × Nat × (Nat → AS) × Nat × Nat × Int32 × RX × (Nat → Prop) × List Nat × List Nat)) => (rE (g 2 q) - rS (g 2 q))) (fun (u : va_W × (PK × (Nat → Nat → Int32) × Nat × Int32 × Int32 × Int32 × Nat × (Nat → AS) × Nat × Nat × Int32 × RX × (Nat → Prop) × List Nat × List Nat)) => (6 * (rE (g 2 q) - rS (g 2 q))))) (pXX G A (fun (u : va_W × (Nat → Int32) × (Nat → Value) × (Nat → Nat → Int32)) => ThQ G h0 a (upd (upd (upd (upd (upd (upd (upd (upd F 2 (nI sz)) 5 (nI cs)) 6 (nI rg)) 7 (nI hd)) 8 (nI dp)) 12 (nI vr)) 13 as9) 16 ls9) (updR (updR (updR R 2 (.ref pq)) 3 (.ref mq)) 4 (va_rf lp9)) Z B J u) (fun u => u.1)) ([.ref (a 4), .ref q] : List Value).toArray s ({ frames := (5 * n + 46), cells := ((rE (g 2 q) - rS (g 2 q)) + 1), slots := (6 * (rE (g 2 q) - rS (g 2 q)) + 6), locals := (200 * n + 1120) } : Room).cells ({ frames := (5 * n + 46), cells := ((rE (g 2 q) - rS (g 2 q)) + 1), slots := (6 * (rE (g 2 q) - rS (g 2 q)) + 6), locals := (200 * n + 1120) } : Room).slots A) (F0 m 109 ls []) := by
    intro n_g
    clear h32 h33 h36
    induction n_g with
    | zero => intro k2 o2 K2 B2 cs2 as2 wt2 wf2 dp2 rg2 gr2 ls2 A2 sl2 Q2 pd2 xb2 xc2 t2 c2 e7 b8 b9 xs2 H locs ls w hk_g hn_g; omega
    | succ n_g ih_g =>
      intro k2 o2 K2 B2 cs2 as2 wt2 wf2 dp2 rg2 gr2 ls2 A2 sl2 Q2 pd2 xb2 xc2 t2 c2 e7 b8 b9 xs2 H locs ls w hk_g hn_g hbe2 hbf2 hbl2 hbr2 hbb2 hng2 hsw2 hvs2 hao2 hdp2 hgr2 hst2 hlp2 hpd2 hrq2 hlr2 hen2 hai2 hch2 hj2 hb92 hmm2 hc29 hcs2 hP hD hS hO hl
      have hf95 : K2.1 pq = 7 := (BdE.T hbe2 hp1 (by decide))
      have hf96 : K2.2.2.1 18 pq = some (a 1) := (BdE.C hbe2 (by rw [hp1]; decide) 18).trans hp2
      have hf97 : K2.2.2.1 14 pq = some dr := (BdE.C hbe2 (by rw [hp1]; decide) 14).trans hp3
      have hf98 : K2.1 dr = 8 := (BdE.T hbe2 hp4 (by decide))
      have hf99 : K2.2.2.1 15 pq = some ml := (BdE.C hbe2 (by rw [hp1]; decide) 15).trans hp5
      have hf100 : K2.1 ml = 5 := (BdE.T hbe2 hp6 (by decide))
      have hf101 : K2.2.1 24 pq = (nI nd) := (BdE.I hbe2 (by rw [hp1]; decide) (by decide) (by decide)).trans hp8
      have hf102 : K2.1 q = 1 := (BdE.T hbe2 hqT (by decide))
      have hf103 : K2.1 mq = 3 := (BdE.T hbe2 hmq (by decide))
      have hf104 : K2.2.1 10 mq = (nI rt) := (BdE.I hbe2 (by rw [hmq]; decide) (by decide) (by decide)).trans hrt
      have hf105 : K2.2.2.1 0 q = some q1 := (BdE.C hbe2 (by rw [hqT]; decide) 0).trans hc0
      have hf106 : K2.1 q1 = 1 := (BdE.T hbe2 ht0 (by decide))
      have hf107 : K2.2.2.1 2 q = some q3 := (BdE.C hbe2 (by rw [hqT]; decide) 2).trans hc2
      have hf108 : K2.1 q3 = 1 := (BdE.T hbe2 ht2 (by decide))
      have hf109 : K2.2.1 0 q1 = 21 := (BdE.I hbe2 (by rw [ht0]; decide) (by decide) (by decide)).trans hk1
      have hf110 : K2.2.1 0 q3 = 21 := (BdE.I hbe2 (by rw [ht2]; decide) (by decide) (by decide)).trans hk3
      have hf111 : K2.2.1 0 q = 32 := (BdE.I hbe2 (by rw [hqT]; decide) (by decide) (by decide)).trans hkd
      have hsn2 := hst2.1.2.2.2.1
      rcases o2 with _ | x9
      · have hl : lv_has ls 11 [(10, .null), (9, .int b9), (8, .int b8), (7, .int (nI e7)), (6, .int (nI cs)), (5, .int as9), (4, .int (nI hd)), (3, .int 29), (2, .int 1), (1, .ref q), (0, .ref (a 4))] := hl
        refine W.eq (g2 := F0 m 109 ls []) rfl ?_
        refine lv_aloadN hx hb dX0_tryStatement_109 (lv_at hl 0 rfl) ?_
        refine lv_ifnullN (tgt := 184) hx hb dX0_tryStatement_111 (by decide) ?_
        refine lv_aload_n hx hb dX0_tryStatement_184 rfl (lv_at hl 10 rfl) ?_
        refine lv_dup hx hb dX0_tryStatement_185 rfl ?_
        refine c_get (v := .int ls2) (C := RX0) (Tc := TX0) (N := 13) (ci := 0) hx hb hq pin_wsX00 hown hE hP hO 24 (sg_24 G h0 a _ _ _ _ _) rfl 12 (by decide) (hq _ pw_74) (fun _ h9 => h9) rfl dX0_tryStatement_186 ?_
        refine lv_iload_n hx hb dX0_tryStatement_189 rfl (lv_at hl 8 rfl) ?_
        refine lv_if_eq (tgt := 197) hx hb dX0_tryStatement_190 (by decide) (fun c112 => absurd c112 (by decide)) (fun c112 => ?_)
        refine lv_iconst (v := 1) hx hb dX0_tryStatement_193 (by decide) ?_
        refine lv_goto (tgt := 198) hx hb dX0_tryStatement_194 (by decide) ?_
        refine lv_isub hx hb dX0_tryStatement_198 ?_
        refine lv_topi (fun x113 e114 => ?_)
        refine c_put (v := .int x113) (ty := .int) (C := RX0) (Tc := TX0) (N := 13) (ci := 0) hx hb hq pin_wsX00 tyX0 tyX0_ok nmX0 hown hE hP hD hS hO 24 (sg_24 G h0 a _ _ _ _ _) rfl 12 (by decide) (hq _ pw_74) (fun _ h9 => h9) rfl (by decide +kernel) rfl rfl (Nat.le_of_ble_eq_true rfl) (sf_16 G h0 a _ _ _ _ _ x113) dX0_tryStatement_199 (fun H locs w hP hD hS hO => ?_)
        refine lv_aload_n hx hb dX0_tryStatement_202 rfl (lv_at hl 10 rfl) ?_
        refine c_get (v := .ref (a 2)) (C := RX0) (Tc := TX0) (N := 13) (ci := 0) hx hb hq pin_wsX00 hown hE hP hO 24 (sg_24 G h0 a _ _ _ _ _) rfl 1 (by decide) (hq _ pw_5) (fun _ h9 => h9) rfl dX0_tryStatement_203 ?_
        refine lv_iload hx hb dX0_tryStatement_206 (lv_at hl 2 rfl) ?_
        have hO : OKW G h0 a (upd (upd (upd (upd (upd (upd (upd (upd (upd (upd (upd F 2 (nI sz)) 5 (nI cs2)) 6 (nI rg2)) 7 (nI hd)) 8 (nI dp2)) 12 (nI vr)) 13 as2) 14 wt2) 15 wf2) 16 x113) 5 (nI cs2)) (updR (updR (updR R 2 (.ref pq)) 3 (.ref mq)) 4 (va_rf lp9)) Z B2 J K2.1 (fun q99 x99 => x99 = rep G a K2 q99) w := hO.to rfl
        obtain ⟨_, qr118, hqr119⟩ := hO.2.1 13 _ (sg_13 G h0 a _ _ _ _ _)
        refine pc_V0 (G := G) (As := [.int b8]) (rest := []) hx hb hml hown hq hE hX pX0_al hP hD hS hA hl.1 (Y_land l G h0 a (upd (upd (upd (upd (upd (upd (upd (upd (upd (upd F 2 (nI sz)) 5 (nI cs2)) 6 (nI rg2)) 7 (nI hd)) 8 (nI dp2)) 12 (nI vr)) 13 as2) 14 wt2) 15 wf2) 16 x113) (updR (updR (updR R 2 (.ref pq)) 3 (.ref mq)) 4 (va_rf lp9)) Z B2 J K2.1 (fun q99 x99 => x99 = rep G a K2 q99) w b8 cs2 xs2 (by omega) hch2 (fun y9 hy9 => (PdS.js hpd2 y9 hy9).2.1) hO) (gV pw_200 pw_201 pw_202 pw_70 pw_134) hV_X1_land qr118 1 hqr119 rfl rfl rfl (Nat.le_of_ble_eq_true rfl) dX0_tryStatement_208 ⟨(by show c2 + 0 ≤ ((rE (g 2 q) - rS (g 2 q)) + 1); omega), (by show (6 * c2) + 0 ≤ (6 * (rE (g 2 q) - rS (g 2 q)) + 6); omega)⟩ ⟨(by show 2 + 1 ≤ (5 * n + 46); omega), (by show 8 + (5 + 11) + 60 ≤ (200 * n + 1120); omega)⟩ (fun v117 u115 H locs hw116 hP hD hS => ?_)
        obtain ⟨w, _⟩ := u115
        obtain ⟨hw116, hO⟩ := hw116
        obtain rfl : v117 = none := hw116
        have hO : OKP G h0 a (upd (upd (upd (upd (upd (upd (upd (upd (upd (upd F 2 (nI sz)) 5 (nI cs2)) 6 (nI rg2)) 7 (nI hd)) 8 (nI dp2)) 12 (nI vr)) 13 as2) 14 wt2) 15 wf2) 16 x113) (updR (updR (updR R 2 (.ref pq)) 3 (.ref mq)) 4 (va_rf lp9)) Z (updA B2 17 (aim ((B2 17)) xs2 cs2)) J K2 w := hO.to rfl
        refine W.widen (k := c2) (n := (6 * c2)) (by show c2 + 0 ≤ c2; omega) (by show (6 * c2) + 0 ≤ (6 * c2); omega) ?_
        refine W.eq (g2 := F0 m 211 ls []) rfl ?_
        have hsw120 : ∀ x9 : Nat, x9 < cs → (aim ((B2 17)) xs2 cs2) x9 = B 17 x9 := fun x9 hx9 => (aim_no (fun q9 => by have e9 := (PdS.js hpd2 x9 q9).1; omega)).trans ((fun x9 hx9 => (hsw2 x9 hx9).2.1) x9 hx9)
        have hlp121 : LpS K2 (B2 16) (aim ((B2 17)) xs2 cs2) A2 (pdm pd2 xs2) lp9 lw cs2 hd sl hdL slL xb2 xc2 := LpS.same (LpS.to (LpS.land (b := (0, hd, sl, ([] : List Nat))) (xs := xs2) hlp2 (LpS.dis hpd2 (fun _ hz9 => hz9))) hlp) (fun _ _ _ _ _ => rfl) (fun z9 hz9 => ⟨rfl, rfl, (upS_ne (by omega)).symm⟩) (fun _ h9 => h9) (fun z9 h9 => hlp2.1 z9 h9.1) (Nat.le_refl _) ⟨Nat.le_refl _, fun _ _ => rfl⟩
        have hpd122 : PdS pd (pdm pd2 xs2) xb xb2 xc xc2 ([] : List Nat) cs cs2 := PdS.all hpd2 hlp.1
        refine lv_aload_n hx hb dX0_tryStatement_211 rfl (lv_at hl 10 rfl) ?_
        refine lv_iload hx hb dX0_tryStatement_212 (lv_at hl 1 rfl) ?_
        refine c_put (v := .int b9) (ty := .int) (C := RX0) (Tc := TX0) (N := 13) (ci := 0) hx hb hq pin_wsX00 tyX0 tyX0_ok nmX0 hown hE hP hD hS hO 24 (sg_24 G h0 a _ _ _ _ _) rfl 8 (by decide) (hq _ pw_55) (fun _ h9 => h9) rfl (by decide +kernel) rfl rfl (Nat.le_of_ble_eq_true rfl) (sf_13 G h0 a _ _ _ _ _ b9) dX0_tryStatement_214 (fun H locs w hP hD hS hO => ?_)
        refine lv_iload_n hx hb dX0_tryStatement_217 rfl (lv_at hl 8 rfl) ?_
        refine lv_if_eq (tgt := 267) hx hb dX0_tryStatement_218 (by decide) (fun c123 => absurd c123 (by decide)) (fun c123 => ?_)
        refine lv_aload_n hx hb dX0_tryStatement_221 rfl (lv_at hl 10 rfl) ?_
        refine c_get (v := .ref (a 2)) (C := RX0) (Tc := TX0) (N := 13) (ci := 0) hx hb hq pin_wsX00 hown hE hP hO 24 (sg_24 G h0 a _ _ _ _ _) rfl 1 (by decide) (hq _ pw_5) (fun _ h9 => h9) rfl dX0_tryStatement_222 ?_
        refine lv_iload hx hb dX0_tryStatement_225 (lv_at hl 4 rfl) ?_
        refine lv_aload_n hx hb dX0_tryStatement_227 rfl (lv_at hl 10 rfl) ?_
        refine c_get (v := .ref (a 2)) (C := RX0) (Tc := TX0) (N := 13) (ci := 0) hx hb hq pin_wsX00 hown hE hP hO 24 (sg_24 G h0 a _ _ _ _ _) rfl 1 (by decide) (hq _ pw_5) (fun _ h9 => h9) rfl dX0_tryStatement_228 ?_
        refine c_get (v := .int (nI cs2)) (C := RX1) (Tc := TX1) (N := 13) (ci := 1) hx hb hq pin_wsX10 hown hE hP hO 13 (sg_13 G h0 a _ _ _ _ _) rfl 4 (by decide) (hq _ pw_75) (fun _ h9 => h9) rfl dX0_tryStatement_231 ?_
        refine lv_iconst (v := (-1)) hx hb dX0_tryStatement_234 (by decide) ?_
        refine lv_iload hx hb dX0_tryStatement_235 (lv_at hl 6 rfl) ?_
        have hO : OKW G h0 a (upd (upd (upd (upd (upd (upd (upd (upd (upd (upd (upd (upd F 2 (nI sz)) 5 (nI cs2)) 6 (nI rg2)) 7 (nI hd)) 8 (nI dp2)) 12 (nI vr)) 13 b9) 14 wt2) 15 wf2) 16 x113) 5 (nI cs2)) 6 (nI rg2)) (updR (updR (updR R 2 (.ref pq)) 3 (.ref mq)) 4 (va_rf lp9)) Z (updA B2 17 (aim ((B2 17)) xs2 cs2)) J K2.1 (fun q99 x99 => x99 = rep G a K2 q99) w := hO.to rfl
        obtain ⟨_, qr127, hqr128⟩ := hO.2.1 13 _ (sg_13 G h0 a _ _ _ _ _)
        refine pc_V0 (G := G) (As := [.int (nI cs), .int (nI cs2), .int (-1 : Int32), .int (nI hd)]) (rest := []) hx hb hml hown hq hE hX pX0_al hP hD hS hA hl.1 (Y_addReg l G h0 a (upd (upd (upd (upd (upd (upd (upd (upd (upd (upd F 2 (nI sz)) 5 (nI cs2)) 6 (nI rg2)) 7 (nI hd)) 8 (nI dp2)) 12 (nI vr)) 13 b9) 14 wt2) 15 wf2) 16 x113) (updR (updR (updR R 2 (.ref pq)) 3 (.ref mq)) 4 (va_rf lp9)) Z (updA B2 17 (aim ((B2 17)) xs2 cs2)) J K2.1 (fun q99 x99 => x99 = rep G a K2 q99) w cs cs2 hd rg2 gr2 cs2 nd (-1 : Int32) Q2 (by omega) hrq2 (by omega) (Or.inl rfl) hO) (gV pw_349 pw_350 pw_351 pw_70 pw_294) hV_X1_addRegion qr127 1 hqr128 rfl rfl rfl (Nat.le_of_ble_eq_true rfl) dX0_tryStatement_237 ⟨(by show c2 + 0 ≤ ((rE (g 2 q) - rS (g 2 q)) + 1); omega), (by show (6 * c2) + 0 ≤ (6 * (rE (g 2 q) - rS (g 2 q)) + 6); omega)⟩ ⟨(by show 2 + 1 ≤ (5 * n + 46); omega), (by show 8 + (5 + 11) + 60 ≤ (200 * n + 1120); omega)⟩ (fun v126 u124 H locs hw125 hP hD hS => ?_)
        obtain ⟨w, rg129, f130, f131, f132, f133, f134⟩ := u124
        obtain ⟨hw125, h135, h136, hO⟩ := hw125
        replace h135 : RgQx (updA (updA (updA (updA (updA (updA B2 17 (aim ((B2 17)) xs2 cs2)) (20) f130) (21) f131) (22) f132) (23) f133) (24) f134) (upQx Q2 gr2 cs cs2 cs2 hd (-1 : Int32) 0) (gr2 + 1) nd := h135
        replace h136 : rg129 ≤ 625 ∧ rg129 ≤ gr2 + 1 ∧ (rg129 = 625 ∨ rg129 = gr2 + 1) := h136
        obtain rfl : v126 = none := hw125
        have hO : OKP G h0 a (upd (upd (upd (upd (upd (upd (upd (upd (upd (upd F 2 (nI sz)) 5 (nI cs2)) 6 (nI rg129)) 7 (nI hd)) 8 (nI dp2)) 12 (nI vr)) 13 b9) 14 wt2) 15 wf2) 16 x113) (updR (updR (updR R 2 (.ref pq)) 3 (.ref mq)) 4 (va_rf lp9)) Z (updA (updA (updA (updA (updA (updA B2 17 (aim ((B2 17)) xs2 cs2)) 20 f130) 21 f131) 22 f132) 23 f133) 24 f134) J K2 w := hO.to rfl
        refine W.widen (k := c2) (n := (6 * c2)) (by show c2 + 0 ≤ c2; omega) (by show (6 * c2) + 0 ≤ (6 * c2); omega) ?_
        refine W.eq (g2 := F0 m 240 ls []) rfl ?_
        have hrq137 : RgQx (updA (updA (updA (updA (updA (updA B2 17 (aim ((B2 17)) xs2 cs2)) 20 f130) 21 f131) 22 f132) 23 f133) 24 f134) (upQx Q2 gr2 cs cs2 cs2 hd (-1 : Int32) 0) (gr2 + 1) nd := h135
        refine lv_aload_n hx hb dX0_tryStatement_240 rfl (lv_at hl 10 rfl) ?_
        refine lv_iload hx hb dX0_tryStatement_241 (lv_at hl 5 rfl) ?_
        refine c_put (v := .int as9) (ty := .int) (C := RX0) (Tc := TX0) (N := 13) (ci := 0) hx hb hq pin_wsX00 tyX0 tyX0_ok nmX0 hown hE hP hD hS hO 24 (sg_24 G h0 a _ _ _ _ _) rfl 8 (by decide) (hq _ pw_55) (fun _ h9 => h9) rfl (by decide +kernel) rfl rfl (Nat.le_of_ble_eq_true rfl) (sf_13 G h0 a _ _ _ _ _ as9) dX0_tryStatement_243 (fun H locs w hP hD hS hO => ?_)
        refine lv_aload_n hx hb dX0_tryStatement_246 rfl (lv_at hl 10 rfl) ?_
        refine lv_aload_n hx hb dX0_tryStatement_247 rfl (lv_at hl 9 rfl) ?_
        refine p_get (v := .ref q3) (C := RX7) (Tc := TX7) (N := 11) (ci := 13) hx hb hq pin_wsX70 hown hE hP hO (by rw [hf102]; decide) (rep_1 hf102) rfl 8 (by decide) (hq _ pw_196) (fun _ h9 => h9) (congrArg (fun z => some (va_rf z)) hf107) dX0_tryStatement_248 ?_
        refine lv_iload hx hb dX0_tryStatement_251 (lv_at hl 6 rfl) ?_
        have htl138 : tlE g q3 = rE (g 2 q3) - rS (g 2 q3) := rfl
        have hO : OKP G h0 a (upd (upd (upd (upd (upd (upd (upd (upd (upd (upd (upd (upd (upd (upd (upd (upd (upd (upd (upd (upd (upd (upd F 2 (nI sz)) 5 (nI cs)) 6 (nI rg)) 7 (nI hd)) 8 (nI dp)) 12 (nI vr)) 13 as9) 16 ls9) 5 (nI cs2)) 6 (nI rg129)) 8 (nI dp2)) 14 wt2) 15 wf2) 16 x113) 2 (nI sz)) 5 (nI cs2)) 6 (nI rg129)) 7 (nI hd)) 8 (nI dp2)) 12 (nI vr)) 13 as9) 16 x113) (updR (updR (updR (updR (updR (updR R 2 (.ref pq)) 3 (.ref mq)) 4 (va_rf lp9)) 2 (.ref pq)) 3 (.ref mq)) 4 (va_rf lp9)) Z (updA (updA (updA (updA (updA (updA B2 17 (aim ((B2 17)) xs2 cs2)) 20 f130) 21 f131) 22 f132) 23 f133) 24 f134) J K2 w := hO.to rfl
        obtain ⟨_, qr142, hqr143⟩ := hO.2.1 24 _ (sg_24 G h0 a _ _ _ _ _)
        refine pn_V0 (G := G) (As := [.ref q3, .int (nI hd)]) (rest := []) hx hb hml hown hq hE hX pX0_al hP hD hS hA hl.1 (Y_last l G h0 a (upd (upd (upd (upd (upd (upd (upd (upd (upd (upd (upd (upd (upd (upd F 2 (nI sz)) 5 (nI cs)) 6 (nI rg)) 7 (nI hd)) 8 (nI dp)) 12 (nI vr)) 13 as9) 16 ls9) 5 (nI cs2)) 6 (nI rg129)) 8 (nI dp2)) 14 wt2) 15 wf2) 16 x113) (updR (updR (updR R 2 (.ref pq)) 3 (.ref mq)) 4 (va_rf lp9)) Z (updA (updA (updA (updA (updA (updA B2 17 (aim ((B2 17)) xs2 cs2)) 20 f130) 21 f131) 22 f132) 23 f133) 24 f134) J K2 w pq dr ml nd nm cp it s9 q3 mq cs2 vr sz (n - 1) hd sl2 ([] : List Nat) pd2 xs2 (B2 17) b9 hd dp2 rg129 x113 lp9 g rk pb A2 (upQx Q2 gr2 cs cs2 cs2 hd (-1 : Int32) 0) sl m9 lw c0 rt (gr2 + 1) as9 hdL slL xb2 xc2 rL (by omega) (BdE.wp hbe2 hwp) (BdE.pt hbe2 hwp hps) (BdE.rko hbe2 hrk) (by omega) (by omega) hng2 hf103 hf108 ⟨hv2.1, (by have z9 := hv2; omega)⟩ hf104 hrv (by omega) (by omega) (by omega) (LpO.be hbe2 hlo) (EkA.be hbe2 ((BtR.up (BtR.up (BtR.up (BtR.up (BtR.up (BtR.up hbr2 (by omega)) (by omega)) (by omega)) (by omega)) (by omega)) (by omega)) 7 (by decide)) ((BtR.up (BtR.up (BtR.up (BtR.up (BtR.up (BtR.up hbr2 (by omega)) (by omega)) (by omega)) (by omega)) (by omega)) (by omega)) 11 (by decide)) hek) (OwC.be hbe2 hmq hdr0 hcO) (NaB.be hbe2 hbf2 hwp hps.2.1 hdr0 ((BtR.up (BtR.up (BtR.up (BtR.up (BtR.up (BtR.up hbr2 (by omega)) (by omega)) (by omega)) (by omega)) (by omega)) (by omega)) 11 (by decide)) hna) hen2 hao hst2.1 rfl (fun z9 hz9 => (PdS.js hpd2 z9 hz9).2.2) hj2 hb92.2 hwfa (by omega) (by omega) (by omega) (by omega) (SkA.be hbe2 ((BtR.up (BtR.up (BtR.up (BtR.up (BtR.up (BtR.up hbr2 (by omega)) (by omega)) (by omega)) (by omega)) (by omega)) (by omega)) 11 (by decide)) hsk) hlp121 hrq137 hrL hlr2 hf110 (IhZ.lo ist) hO hl0) (gV pw_355 pw_356 pw_357 pw_63 pw_311) hV_X0_last qr142 0 hqr143 rfl rfl rfl (Nat.le_of_ble_eq_true rfl) dX0_tryStatement_253 ⟨(by show c2 + ((rE (g 2 q3) - rS (g 2 q3) - 2) + 1) ≤ ((rE (g 2 q) - rS (g 2 q)) + 1); omega), (by show (6 * c2) + (6 * (rE (g 2 q3) - rS (g 2 q3) - 2) + 6) ≤ (6 * (rE (g 2 q) - rS (g 2 q)) + 6); omega)⟩ ⟨(by show (5 * (n - 1) + 48) + 1 ≤ (5 * n + 46); omega), (by show 8 + (3 + 11) + (200 * (n - 1) + 1160) ≤ (200 * n + 1120); omega)⟩ (fun v141 u139 H locs hw140 hP hD hS => ?_) (fun ux ce9 q9 H9 locs9 hux hP9 hD9 hS9 hce hcv hcl => pb_out ux (ThQ.up (Thx.same (Thx.same (Thx.same (Thx.same (Thx.same (Thx.same (Thx.same (Thx.same (Thx.b (Thx.b (Thx.b (Thx.b (Thx.b (Thx.b (Thx.f (Thx.f (Thx.f (Thx.f (Thx.f (Thx.f (Bth.thx hbb2) (by omega)) (by omega)) (by omega)) (by omega)) (by omega)) (by omega)) (by omega) (by decide)) (by omega) (by decide)) (by omega) (by decide)) (by omega) (by decide)) (by omega) (by decide)) (by omega) (by decide)) rfl) rfl) rfl) rfl) rfl) rfl) rfl) rfl) (show RhX (updR (updR (updR R 2 (.ref pq)) 3 (.ref mq)) 4 (va_rf lp9)) (updR (updR (updR (updR (updR (updR R 2 (.ref pq)) 3 (.ref mq)) 4 (va_rf lp9)) 2 (.ref pq)) 3 (.ref mq)) 4 (va_rf lp9)) from fun k9 hk9 => by unfold updR; simp only [show ¬ k9 = 1 by omega, show ¬ k9 = 2 by omega, show ¬ k9 = 3 by omega, show ¬ k9 = 4 by omega, if_false]) hux) hnt hlocks hce hcv hcl hP9 hD9 hS9 (by show c2 + ((rE (g 2 q3) - rS (g 2 q3) - 2) + 1) ≤ ((rE (g 2 q) - rS (g 2 q)) + 1); omega) (by show (6 * c2) + (6 * (rE (g 2 q3) - rS (g 2 q3) - 2) + 6) ≤ (6 * (rE (g 2 q) - rS (g 2 q)) + 6); omega))
        obtain ⟨w, K144, B145, cs146, as147, wt148, wf149, dp150, Ag151, rg152, gr153, ls154, Q155, pd156, xb157, xc158, e159, O160, L161, R162, H163⟩ := u139
        obtain ⟨hw140, h164, h165, h166, h167, h168, h169, h170, h171, h172, h173, h174, h175, h176, h177, h178, h179, h180, h181, hO⟩ := hw140
        replace h164 : SmW (updA (updA (updA (updA (updA (updA B2 17 (aim ((B2 17)) xs2 cs2)) 20 f130) 21 f131) 22 f132) 23 f133) 24 f134) B145 cs2 := h164
        replace h165 : BdE K2 K144 := h165
        replace h166 : BeF K2 K144 := h166
        replace h167 : BeL K2 K144 lp9 := h167
        replace h168 : Bth (updA (updA (updA (updA (updA (updA B2 17 (aim ((B2 17)) xs2 cs2)) 20 f130) 21 f131) 22 f132) 23 f133) 24 f134) B145 := h168
        replace h169 : BtR (updA (updA (updA (updA (updA (updA B2 17 (aim ((B2 17)) xs2 cs2)) 20 f130) 21 f131) 22 f132) 23 f133) 24 f134) B145 := h169
        replace h170 : cs2 ≤ cs146 ∧ cs146 + 3 ≤ cs2 + 2 * tlE g q3 := h170
        replace h171 : dp2 ≤ dp150 ∧ dp150 ≤ 71 := h171
        replace h172 : AsO as147 := h172
        replace h173 : VrS (updA (updA (updA (updA (updA (updA B2 17 (aim ((B2 17)) xs2 cs2)) 20 f130) 21 f131) 22 f132) 23 f133) 24 f134) B145 vr := h173
        replace h174 : (gr2 + 1) ≤ gr153 ∧ rg152 ≤ 625 ∧ rg152 ≤ gr153 ∧ (rg152 = 625 ∨ rg152 = gr153) := h174
        replace h175 : EnV (B145 26) (B145 27) nd vr hd c0 sl := h175
        replace h176 : StW pb.1 pb.2.1 pb.2.2.1 pb.2.2.2 (upS A2 cs2 (rcA as9, hd + 2, (slQ sl hd cs2 (f9Q b9)), [])) Ag151 (upQx Q2 gr2 cs cs2 cs2 hd (-1 : Int32) 0) Q155 (pdm pd2 xs2) pd156 m9 dp150 lw cs2 e159 as9 as147 (hd + 2) (hd + 2) (slQ sl hd cs2 (f9Q b9)) (slQ sl hd cs2 (f9Q b9)) (gr2 + 1) gr153 O160 L161 R162 H163 [] ∧ (B145 16 = upd O160 e159 30 ∧ B145 17 = upd L161 e159 (nI hd) ∧ B145 18 = upd R162 e159 0 ∧ B145 19 = upd H163 e159 (nI (hd + 2))) := h176
        replace h177 : LpS K144 (B145 16) (B145 17) Ag151 pd156 lp9 lw cs146 hd sl hdL slL xb157 xc158 := h177
        replace h178 : PdS (pdm pd2 xs2) pd156 xb2 xb157 xc2 xc158 [] cs2 cs146 := h178
        replace h179 : RgQx B145 Q155 gr153 nd := h179
        replace h180 : LpR K144 lp9 rL := h180
        replace h181 : cs146 = e159 + 1 := h181
        obtain rfl : v141 = none := hw140
        have hf182 : K144.1 pq = 7 := (BdE.T h165 hf95 (by decide))
        have hf183 : K144.2.2.1 18 pq = some (a 1) := (BdE.C h165 (by rw [hf95]; decide) 18).trans hf96
        have hf184 : K144.2.2.1 14 pq = some dr := (BdE.C h165 (by rw [hf95]; decide) 14).trans hf97
        have hf185 : K144.1 dr = 8 := (BdE.T h165 hf98 (by decide))
        have hf186 : K144.2.2.1 15 pq = some ml := (BdE.C h165 (by rw [hf95]; decide) 15).trans hf99
        have hf187 : K144.1 ml = 5 := (BdE.T h165 hf100 (by decide))
        have hf188 : K144.2.1 24 pq = (nI nd) := (BdE.I h165 (by rw [hf95]; decide) (by decide) (by decide)).trans hf101
        have hf189 : K144.1 q = 1 := (BdE.T h165 hf102 (by decide))
        have hf190 : K144.1 mq = 3 := (BdE.T h165 hf103 (by decide))
        have hf191 : K144.2.1 10 mq = (nI rt) := (BdE.I h165 (by rw [hf103]; decide) (by decide) (by decide)).trans hf104
        have hf192 : K144.2.2.1 0 q = some q1 := (BdE.C h165 (by rw [hf102]; decide) 0).trans hf105
        have hf193 : K144.1 q1 = 1 := (BdE.T h165 hf106 (by decide))
        have hf194 : K144.2.2.1 2 q = some q3 := (BdE.C h165 (by rw [hf102]; decide) 2).trans hf107
        have hf195 : K144.1 q3 = 1 := (BdE.T h165 hf108 (by decide))
        have hf196 : K144.2.1 0 q1 = 21 := (BdE.I h165 (by rw [hf106]; decide) (by decide) (by decide)).trans hf109
        have hf197 : K144.2.1 0 q3 = 21 := (BdE.I h165 (by rw [hf108]; decide) (by decide) (by decide)).trans hf110
        have hf198 : K144.2.1 0 q = 32 := (BdE.I h165 (by rw [hf102]; decide) (by decide) (by decide)).trans hf111
        have hO : OKP G h0 a (upd (upd (upd (upd (upd (upd (upd (upd (upd (upd F 2 (nI sz)) 5 (nI cs146)) 6 (nI rg152)) 7 (nI hd)) 8 (nI dp150)) 12 (nI vr)) 13 as147) 14 wt148) 15 wf149) 16 ls154) (updR (updR (updR R 2 (.ref pq)) 3 (.ref mq)) 4 (va_rf lp9)) Z B145 J K144 w := hO.to rfl
        refine W.widen (k := (c2 + (rE (g 2 q3) - rS (g 2 q3) - 2))) (n := ((6 * c2) + (6 * (rE (g 2 q3) - rS (g 2 q3) - 2)))) (by show c2 + (rE (g 2 q3) - rS (g 2 q3) - 2) ≤ (c2 + (rE (g 2 q3) - rS (g 2 q3) - 2)); omega) (by show (6 * c2) + (6 * (rE (g 2 q3) - rS (g 2 q3) - 2)) ≤ ((6 * c2) + (6 * (rE (g 2 q3) - rS (g 2 q3) - 2))); omega) ?_
        refine W.eq (g2 := F0 m 256 ls []) rfl ?_
        have hbe199 := BdE.trans hbe2 h165
        have hbb200 : Bth B B145 := Bth.trans (show Thx (upd (upd (upd (upd (upd (upd (upd (upd F 2 (nI sz)) 5 (nI cs)) 6 (nI rg)) 7 (nI hd)) 8 (nI dp)) 12 (nI vr)) 13 as9) 16 ls9) (upd (upd (upd (upd (upd (upd (upd (upd (upd (upd (upd (upd (upd (upd F 2 (nI sz)) 5 (nI cs)) 6 (nI rg)) 7 (nI hd)) 8 (nI dp)) 12 (nI vr)) 13 as9) 16 ls9) 5 (nI cs2)) 6 (nI rg129)) 8 (nI dp2)) 14 wt2) 15 wf2) 16 x113) B (updA (updA (updA (updA (updA (updA B2 17 (aim ((B2 17)) xs2 cs2)) 20 f130) 21 f131) 22 f132) 23 f133) 24 f134) from (Thx.b (Thx.b (Thx.b (Thx.b (Thx.b (Thx.b (Thx.f (Thx.f (Thx.f (Thx.f (Thx.f (Thx.f (Bth.thx hbb2) (by omega)) (by omega)) (by omega)) (by omega)) (by omega)) (by omega)) (by omega) (by decide)) (by omega) (by decide)) (by omega) (by decide)) (by omega) (by decide)) (by omega) (by decide)) (by omega) (by decide))).2 h168
        have hng201 : Nng (B145 18) := h168.2 hng2
        have hsw202 : ∀ x9 : Nat, x9 < cs → (B145 16) x9 = B 16 x9 := fun x9 hx9 => ((h164 x9 (by omega)).1).trans ((fun x9 hx9 => (hsw2 x9 hx9).1) x9 hx9)
        have hsw203 : ∀ x9 : Nat, x9 < cs → (B145 17) x9 = B 17 x9 := fun x9 hx9 => ((h164 x9 (by omega)).2.1).trans (hsw120 x9 hx9)
        have hsw204 : ∀ x9 : Nat, x9 < cs → (B145 18) x9 = B 18 x9 := fun x9 hx9 => ((h164 x9 (by omega)).2.2.1).trans ((fun x9 hx9 => (hsw2 x9 hx9).2.2.1) x9 hx9)
        have hsw205 : ∀ x9 : Nat, x9 < cs → (B145 19) x9 = B 19 x9 := fun x9 hx9 => ((h164 x9 (by omega)).2.2.2).trans ((fun x9 hx9 => (hsw2 x9 hx9).2.2.2) x9 hx9)
        have hbf206 := BeF.trans hbf2 h166 hbe2
        have hbl208 : BeL K K144 lp9 := BeL.trans hbl2 h167 hbe2
        have hbr207 : BtR B B145 := BtR.trans (BtR.up (BtR.up (BtR.up (BtR.up (BtR.up (BtR.up hbr2 (by omega)) (by omega)) (by omega)) (by omega)) (by omega)) (by omega)) h169
        have hvs209 : VrS B B145 vr := VrS.trans hvs2 h173 (by omega)
        have hpd211 : PdS pd pd156 xb xb157 xc xc158 ([] : List Nat) cs cs146 := PdS.call hpd122 h178 (by omega) (by omega)
        refine lv_aload_n hx hb dX0_tryStatement_256 rfl (lv_at hl 10 rfl) ?_
        refine lv_dup hx hb dX0_tryStatement_257 rfl ?_
        refine c_get (v := .int as147) (C := RX0) (Tc := TX0) (N := 13) (ci := 0) hx hb hq pin_wsX00 hown hE hP hO 24 (sg_24 G h0 a _ _ _ _ _) rfl 8 (by decide) (hq _ pw_55) (fun _ h9 => h9) rfl dX0_tryStatement_258 ?_
        refine lv_iload hx hb dX0_tryStatement_261 (lv_at hl 1 rfl) ?_
        refine lv_ior hx hb dX0_tryStatement_263 ?_
        refine lv_topi (fun x212 e213 => ?_)
        obtain rfl : x212 = (as147 ||| b9) := e213
        refine c_put (v := .int (as147 ||| b9)) (ty := .int) (C := RX0) (Tc := TX0) (N := 13) (ci := 0) hx hb hq pin_wsX00 tyX0 tyX0_ok nmX0 hown hE hP hD hS hO 24 (sg_24 G h0 a _ _ _ _ _) rfl 8 (by decide) (hq _ pw_55) (fun _ h9 => h9) rfl (by decide +kernel) rfl rfl (Nat.le_of_ble_eq_true rfl) (sf_13 G h0 a _ _ _ _ _ (as147 ||| b9)) dX0_tryStatement_264 (fun H locs w hP hD hS hO => ?_)
        refine W_size (fun hz1 hz2 => ?_)
        refine vx_ret ?_
        have hor9 := AsO.or h172 hb92.1
        have hce9 := h181
        have hcl9 := h176.1.2.2.2.2.2.2.2.1
        obtain ⟨Ag214, hst215, hag216⟩ : ∃ A5 : Nat → AS, StW pb.1 pb.2.1 pb.2.2.1 pb.2.2.2 Ag A5 Q9 (upLx Q155 gr2 e159) pd pd156 m9 dp150 lw cs cs146 as9 (as147 ||| b9) hd hd sl sl gr gr153 (B145 16) (B145 17) (B145 18) (B145 19) ([] : List Nat) ∧ ∀ x9 : Nat, x9 < cs146 → A5 x9 = Ag151 x9 := by
          refine ⟨upS Ag151 (e159 + 1) (rcA (as147 ||| b9), hd, sl, ([] : List Nat)), ?_, fun x9 hx9 => upS_ne (by omega)⟩
          rw [h176.2.1, h176.2.2.1, h176.2.2.2.1, h176.2.2.2.2, hce9]
          exact StW.last (r := 0) hst2 hai2 hj2 (fun z9 hz9 => (PdS.js hpd2 z9 hz9).1) (fun x9 hx9 => ⟨((show upd O160 e159 30 x9 = O160 x9 from if_neg (by omega)).symm.trans ((congrFun h176.2.1 x9).symm.trans (h164 x9 hx9).1)), ((show upd L161 e159 (nI hd) x9 = L161 x9 from if_neg (by omega)).symm.trans ((congrFun h176.2.2.1 x9).symm.trans (h164 x9 hx9).2.1))⟩) (by omega) h176.1 hor9.2 (by omega) (by omega) hwfa
        have hlp217 : LpS K144 (B145 16) (B145 17) Ag214 pd156 lp9 lw cs146 hd sl hdL slL xb157 xc158 := LpS.same h177 (fun _ _ _ _ _ => rfl) (fun z9 hz9 => ⟨rfl, rfl, hag216 z9 hz9⟩) (fun _ h9 => h9) h177.1 (Nat.le_refl _) ⟨Nat.le_refl _, fun _ _ => rfl⟩
        have hz218 : SmW B B145 cs := (fun x9 hx9 => ⟨hsw202 x9 hx9, hsw203 x9 hx9, hsw204 x9 hx9, hsw205 x9 hx9⟩)
        have hz219 : BdE K K144 := hbe199
        have hz220 : BeF K K144 := hbf206
        have hz221 : BeL K K144 lp9 := hbl208
        have hz222 : Bth B B145 := (show Thx (upd (upd (upd (upd (upd (upd (upd (upd F 2 (nI sz)) 5 (nI cs)) 6 (nI rg)) 7 (nI hd)) 8 (nI dp)) 12 (nI vr)) 13 as9) 16 ls9) (upd (upd (upd (upd (upd (upd (upd (upd (upd (upd (upd (upd (upd (upd (upd F 2 (nI sz)) 5 (nI cs)) 6 (nI rg)) 7 (nI hd)) 8 (nI dp)) 12 (nI vr)) 13 as9) 16 ls9) 5 (nI cs146)) 6 (nI rg152)) 8 (nI dp150)) 13 (as147 ||| b9)) 14 wt148) 15 wf149) 16 ls154) B B145 from (Thx.f (Thx.f (Thx.f (Thx.f (Thx.f (Thx.f (Thx.f (Bth.thx hbb200) (by omega)) (by omega)) (by omega)) (by omega)) (by omega)) (by omega)) (by omega))).2
        have hz223 : BtR B B145 := hbr207
        have hz224 : cs ≤ cs146 ∧ cs146 + 1 ≤ cs + 2 * tlE g q := (by omega)
        have hz225 : dp ≤ dp150 ∧ dp150 ≤ 71 := (by omega)
        have hz226 : AsO (as147 ||| b9) := hor9.1
        have hz227 : VrS B B145 vr := hvs209
        have hz228 : gr ≤ gr153 ∧ rg152 ≤ 625 ∧ rg152 ≤ gr153 ∧ (rg152 = 625 ∨ rg152 = gr153) := (by omega)
        have hz229 : EnV (B145 26) (B145 27) nd vr hd c0 sl := h175
        have hz230 : StW pb.1 pb.2.1 pb.2.2.1 pb.2.2.2 Ag Ag214 Q9 (upLx Q155 gr2 e159) pd pd156 m9 dp150 lw cs cs146 as9 (as147 ||| b9) hd hd sl sl gr gr153 (B145 16) (B145 17) (B145 18) (B145 19) [] := hst215
        have hz231 : LpS K144 (B145 16) (B145 17) Ag214 pd156 lp9 lw cs146 hd sl hdL slL xb157 xc158 := hlp217
        have hz232 : PdS pd pd156 xb xb157 xc xc158 [] cs cs146 := hpd211
        have hz233 : RgQx B145 (upLx Q155 gr2 e159) gr153 nd := (RgQx.upl h179)
        have hz234 : LpR K144 lp9 rL := h180
        have hO : OKP G h0 a (upd (upd (upd (upd (upd (upd (upd (upd (upd (upd F 2 (nI sz)) 5 (nI cs146)) 6 (nI rg152)) 7 (nI hd)) 8 (nI dp150)) 12 (nI vr)) 13 (as147 ||| b9)) 14 wt148) 15 wf149) 16 ls154) (updR (updR (updR R 2 (.ref pq)) 3 (.ref mq)) 4 (va_rf lp9)) Z B145 J K144 w := hO.to rfl
        refine W.widen (k := ((rE (g 2 q) - rS (g 2 q)) + 1)) (n := (6 * (rE (g 2 q) - rS (g 2 q)) + 6)) (by omega) (by omega) ?_
        have hzz1 : H.size ≤ s.heap.size + ((rE (g 2 q) - rS (g 2 q))) := (by have z : (c2 + (rE (g 2 q3) - rS (g 2 q3) - 2)) ≤ (rE (g 2 q) - rS (g 2 q)) := (by omega); omega)
        have hzz2 : hSl H ≤ hSl s.heap + ((6 * (rE (g 2 q) - rS (g 2 q)))) := (by have z : ((6 * c2) + (6 * (rE (g 2 q3) - rS (g 2 q3) - 2))) ≤ (6 * (rE (g 2 q) - rS (g 2 q))) := (by omega); omega)
        exact W.vret hx hb hr (fun t99 ht99 hW99 => ⟨⟨_, (w, (K144, B145, cs146, (as147 ||| b9), wt148, wf149, dp150, Ag214, rg152, gr153, ls154, (upLx Q155 gr2 e159), pd156, xb157, xc158)), rfl, ⟨rfl, hz218, hz219, hz220, hz221, hz222, hz223, hz224, hz225, hz226, hz227, hz228, hz229, hz230, hz231, hz232, hz233, hz234, hO⟩, by rw [ht99]; exact hP, hD, by rw [ht99]; exact hzz1, by rw [ht99]; exact hzz2⟩, hS.F ht99⟩) hS.2.2 dX0_tryStatement_267
      · have hl : lv_has ls 11 [(10, .ref x9), (9, .int b9), (8, .int b8), (7, .int (nI e7)), (6, .int (nI cs)), (5, .int as9), (4, .int (nI hd)), (3, .int 29), (2, .int 1), (1, .ref q), (0, .ref (a 4))] := hl
        refine W.eq (g2 := F0 m 109 ls []) rfl ?_
        have hxd := hmm2 x9 rfl
        have hxT := hxd.1
        have hxv : 1 ≤ g 0 x9 ∧ g 0 x9 + 1 ≤ n := ⟨hxd.2.1, (by have z := hxd.2.2.1; omega)⟩
        have hxe := MmO.end32 (BdE.wp hbe2 hwp).1 hqL.1 hf111 hxT hxd.2.1 hxd.2.2.2.1
        have hxe1 : rE (g 2 x9) ≤ rN (g 2 q) ∧ rS (g 2 x9) ≤ rE (g 2 x9) ∧ g 2 x9 ≤ 1000000000000000000000000 := ⟨hxe.1, hxe.2.1, hxe.2.2.1⟩
        have hxt := hxd.2.2.2.2
        have htx : tlE g x9 = rE (g 2 x9) - rS (g 2 x9) := rfl
        have hxn := hsb x9 (hbe2.old1 hxT) hxd.2.1 hxd.2.2.2.1
        have hxk := hxe.2.2.2
        have hxw := (BdE.wp hbe2 hwp).1 x9 hxT hxd.2.1
        obtain ⟨xk1, hxb0, hxbT, hxbl⟩ := NdO.ch hxw (f := 0) (by decide) (hxw.1.1 (by rw [hxk]; decide))
        have hxkv : 1 ≤ g 0 xk1 ∧ g 0 xk1 + 1 ≤ n - 1 := ⟨hxbl.1, (by have z := hxbl.2; omega)⟩
        have hskx := (SkA.be hbe2 (hbr2 11 (by decide)) hsk x9 hxT hxd.2.1).2.2.2.2.2.2.2.2.2.1 hxk
        obtain ⟨fx9, hfx9⟩ : ∃ z : Int32, K2.2.1 2 x9 = z := ⟨_, rfl⟩
        refine lv_aload hx hb dX0_tryStatement_109 (lv_at hl 0 rfl) ?_
        refine lv_ifnull hx hb dX0_tryStatement_111 ?_
        refine lv_aload_n hx hb dX0_tryStatement_114 rfl (lv_at hl 10 rfl) ?_
        refine c_get (v := .ref (a 2)) (C := RX0) (Tc := TX0) (N := 13) (ci := 0) hx hb hq pin_wsX00 hown hE hP hO 24 (sg_24 G h0 a _ _ _ _ _) rfl 1 (by decide) (hq _ pw_5) (fun _ h9 => h9) rfl dX0_tryStatement_115 ?_
        refine lv_iload hx hb dX0_tryStatement_118 (lv_at hl 4 rfl) ?_
        refine lv_iload hx hb dX0_tryStatement_120 (lv_at hl 3 rfl) ?_
        refine lv_aload_n hx hb dX0_tryStatement_122 rfl (lv_at hl 10 rfl) ?_
        refine c_get (v := .ref (a 1)) (C := RX0) (Tc := TX0) (N := 13) (ci := 0) hx hb hq pin_wsX00 hown hE hP hO 24 (sg_24 G h0 a _ _ _ _ _) rfl 0 (by decide) (hq _ pw_4) (fun _ h9 => h9) rfl dX0_tryStatement_123 ?_
        refine lv_aload hx hb dX0_tryStatement_126 (lv_at hl 0 rfl) ?_
        refine p_get (v := .int fx9) (C := RX7) (Tc := TX7) (N := 11) (ci := 13) hx hb hq pin_wsX70 hown hE hP hO (by rw [hxT]; decide) (rep_1 hxT) rfl 2 (by decide) (hq _ pw_82) (fun _ h9 => h9) (congrArg (fun z => some (Value.int z)) hfx9) dX0_tryStatement_128 ?_
        have hO : OKW G h0 a (upd (upd (upd (upd (upd (upd (upd (upd (upd (upd (upd F 2 (nI sz)) 5 (nI cs2)) 6 (nI rg2)) 7 (nI hd)) 8 (nI dp2)) 12 (nI vr)) 13 as2) 14 wt2) 15 wf2) 16 ls2) 2 (nI sz)) (updR (updR (updR R 2 (.ref pq)) 3 (.ref mq)) 4 (va_rf lp9)) Z B2 J K2.1 (fun q99 x99 => x99 = rep G a K2 q99) w := hO.to rfl
        obtain ⟨_, qr238, hqr239⟩ := hO.2.1 2 _ (sg_2 G h0 a _ _ _ _ _)
        refine pc_V0 (G := G) (As := [.int fx9]) (rest := [.int (nI e7), .int (nI cs), .ref (a 2)]) hx hb hml hown hq hE hX pX0_al hP hD hS hA hl.1 (Y_typeAt l G h0 a (upd (upd (upd (upd (upd (upd (upd (upd (upd (upd F 2 (nI sz)) 5 (nI cs2)) 6 (nI rg2)) 7 (nI hd)) 8 (nI dp2)) 12 (nI vr)) 13 as2) 14 wt2) 15 wf2) 16 ls2) (updR (updR (updR R 2 (.ref pq)) 3 (.ref mq)) 4 (va_rf lp9)) Z B2 J K2.1 (fun q99 x99 => x99 = rep G a K2 q99) w fx9 sz nd (by omega) (NaB.be hbe2 hbf2 hwp hps.2.1 hdr0 (hbr2 11 (by decide)) hna).1.2.1 hO) (gV pw_92 pw_93 pw_94 pw_59 pw_36) hV_X10_typeAt qr238 7 hqr239 rfl rfl rfl (Nat.le_of_ble_eq_true rfl) dX0_tryStatement_131 ⟨(by show c2 + 0 ≤ ((rE (g 2 q) - rS (g 2 q)) + 1); omega), (by show (6 * c2) + 0 ≤ (6 * (rE (g 2 q) - rS (g 2 q)) + 6); omega)⟩ ⟨(by show 2 + 1 ≤ (5 * n + 46); omega), (by show 8 + (2 + 11) + 60 ≤ (200 * n + 1120); omega)⟩ (fun v237 u235 H locs hw236 hP hD hS => ?_)
        obtain ⟨w, _⟩ := u235
        obtain ⟨hw236, hO⟩ := hw236
        obtain rfl : v237 = some (.int (nI (tyN ((B2 11)) sz fx9))) := hw236
        have hO : OKP G h0 a (upd (upd (upd (upd (upd (upd (upd (upd (upd (upd F 2 (nI sz)) 5 (nI cs2)) 6 (nI rg2)) 7 (nI hd)) 8 (nI dp2)) 12 (nI vr)) 13 as2) 14 wt2) 15 wf2) 16 ls2) (updR (updR (updR R 2 (.ref pq)) 3 (.ref mq)) 4 (va_rf lp9)) Z B2 J K2 w := hO.to rfl
        refine W.widen (k := c2) (n := (6 * c2)) (by show c2 + 0 ≤ c2; omega) (by show (6 * c2) + 0 ≤ (6 * c2); omega) ?_
        refine W.eq (g2 := F0 m 134 ls [.int (nI (tyN ((B2 11)) sz fx9)), .int (nI e7), .int (nI cs), .ref (a 2)]) rfl ?_
        obtain ⟨ty240, hty240, hvty240⟩ : ∃ z : Nat, tyN (B2 11) sz fx9 = z ∧ TyV nd z := ⟨_, rfl, ((NaB.be hbe2 hbf2 hwp hps.2.1 hdr0 (hbr2 11 (by decide)) hna).1.2.1).V (by omega)⟩
        rw [hty240]
        have hlty240 := (hvty240).lt hna.1.1
        have htn9 : ty240 < nd := by rw [← hty240, ← hfx9]; exact hskx.1
        refine lv_iload hx hb dX0_tryStatement_134 (lv_at hl 6 rfl) ?_
        have hO : OKW G h0 a (upd (upd (upd (upd (upd (upd (upd (upd (upd (upd (upd (upd F 2 (nI sz)) 5 (nI cs2)) 6 (nI rg2)) 7 (nI hd)) 8 (nI dp2)) 12 (nI vr)) 13 as2) 14 wt2) 15 wf2) 16 ls2) 5 (nI cs2)) 6 (nI rg2)) (updR (updR (updR R 2 (.ref pq)) 3 (.ref mq)) 4 (va_rf lp9)) Z B2 J K2.1 (fun q99 x99 => x99 = rep G a K2 q99) w := hO.to rfl
        obtain ⟨_, qr244, hqr245⟩ := hO.2.1 13 _ (sg_13 G h0 a _ _ _ _ _)
        refine pc_V0 (G := G) (As := [.int (nI cs), .int (nI e7), .int (nI ty240), .int (nI hd)]) (rest := []) hx hb hml hown hq hE hX pX0_al hP hD hS hA hl.1 (Y_addReg l G h0 a (upd (upd (upd (upd (upd (upd (upd (upd (upd (upd F 2 (nI sz)) 5 (nI cs2)) 6 (nI rg2)) 7 (nI hd)) 8 (nI dp2)) 12 (nI vr)) 13 as2) 14 wt2) 15 wf2) 16 ls2) (updR (updR (updR R 2 (.ref pq)) 3 (.ref mq)) 4 (va_rf lp9)) Z B2 J K2.1 (fun q99 x99 => x99 = rep G a K2 q99) w cs e7 hd rg2 gr2 cs2 nd (nI ty240) Q2 (by omega) hrq2 (by omega) (Or.inr ⟨ty240, htn9, rfl⟩) hO) (gV pw_349 pw_350 pw_351 pw_70 pw_294) hV_X1_addRegion qr244 1 hqr245 rfl rfl rfl (Nat.le_of_ble_eq_true rfl) dX0_tryStatement_136 ⟨(by show c2 + 0 ≤ ((rE (g 2 q) - rS (g 2 q)) + 1); omega), (by show (6 * c2) + 0 ≤ (6 * (rE (g 2 q) - rS (g 2 q)) + 6); omega)⟩ ⟨(by show 2 + 1 ≤ (5 * n + 46); omega), (by show 8 + (5 + 11) + 60 ≤ (200 * n + 1120); omega)⟩ (fun v243 u241 H locs hw242 hP hD hS => ?_)
        obtain ⟨w, rg246, f247, f248, f249, f250, f251⟩ := u241
        obtain ⟨hw242, h252, h253, hO⟩ := hw242
        replace h252 : RgQx (updA (updA (updA (updA (updA B2 (20) f247) (21) f248) (22) f249) (23) f250) (24) f251) (upQx Q2 gr2 cs e7 cs2 hd (nI ty240) 0) (gr2 + 1) nd := h252
        replace h253 : rg246 ≤ 625 ∧ rg246 ≤ gr2 + 1 ∧ (rg246 = 625 ∨ rg246 = gr2 + 1) := h253
        obtain rfl : v243 = none := hw242
        have hO : OKP G h0 a (upd (upd (upd (upd (upd (upd (upd (upd (upd (upd F 2 (nI sz)) 5 (nI cs2)) 6 (nI rg246)) 7 (nI hd)) 8 (nI dp2)) 12 (nI vr)) 13 as2) 14 wt2) 15 wf2) 16 ls2) (updR (updR (updR R 2 (.ref pq)) 3 (.ref mq)) 4 (va_rf lp9)) Z (updA (updA (updA (updA (updA B2 20 f247) 21 f248) 22 f249) 23 f250) 24 f251) J K2 w := hO.to rfl
        refine W.widen (k := c2) (n := (6 * c2)) (by show c2 + 0 ≤ c2; omega) (by show (6 * c2) + 0 ≤ (6 * c2); omega) ?_
        refine W.eq (g2 := F0 m 139 ls []) rfl ?_
        have hrq254 : RgQx (updA (updA (updA (updA (updA B2 20 f247) 21 f248) 22 f249) 23 f250) 24 f251) (upQx Q2 gr2 cs e7 cs2 hd (nI ty240) 0) (gr2 + 1) nd := h252
        have hlp255 : LpS K2 (B2 16) (B2 17) A2 pd2 lp9 lw cs2 hd sl hdL slL xb2 xc2 := LpS.to hlp2 hlp
        refine lv_aload_n hx hb dX0_tryStatement_139 rfl (lv_at hl 10 rfl) ?_
        refine lv_iload hx hb dX0_tryStatement_140 (lv_at hl 5 rfl) ?_
        refine c_put (v := .int as9) (ty := .int) (C := RX0) (Tc := TX0) (N := 13) (ci := 0) hx hb hq pin_wsX00 tyX0 tyX0_ok nmX0 hown hE hP hD hS hO 24 (sg_24 G h0 a _ _ _ _ _) rfl 8 (by decide) (hq _ pw_55) (fun _ h9 => h9) rfl (by decide +kernel) rfl rfl (Nat.le_of_ble_eq_true rfl) (sf_13 G h0 a _ _ _ _ _ as9) dX0_tryStatement_142 (fun H locs w hP hD hS hO => ?_)
        refine lv_aload_n hx hb dX0_tryStatement_145 rfl (lv_at hl 10 rfl) ?_
        refine lv_aload hx hb dX0_tryStatement_146 (lv_at hl 0 rfl) ?_
        have htl256 : tlE g x9 = rE (g 2 x9) - rS (g 2 x9) := rfl
        have hO : OKP G h0 a (upd (upd (upd (upd (upd (upd (upd (upd (upd (upd (upd (upd (upd (upd (upd (upd (upd (upd (upd (upd (upd (upd F 2 (nI sz)) 5 (nI cs)) 6 (nI rg)) 7 (nI hd)) 8 (nI dp)) 12 (nI vr)) 13 as9) 16 ls9) 5 (nI cs2)) 6 (nI rg246)) 8 (nI dp2)) 14 wt2) 15 wf2) 16 ls2) 2 (nI sz)) 5 (nI cs2)) 6 (nI rg246)) 7 (nI hd)) 8 (nI dp2)) 12 (nI vr)) 13 as9) 16 ls2) (updR (updR (updR (updR (updR (updR R 2 (.ref pq)) 3 (.ref mq)) 4 (va_rf lp9)) 2 (.ref pq)) 3 (.ref mq)) 4 (va_rf lp9)) Z (updA (updA (updA (updA (updA B2 20 f247) 21 f248) 22 f249) 23 f250) 24 f251) J K2 w := hO.to rfl
        obtain ⟨_, qr260, hqr261⟩ := hO.2.1 24 _ (sg_24 G h0 a _ _ _ _ _)
        refine pn_V0 (G := G) (As := [.ref x9]) (rest := []) hx hb hml hown hq hE hX pX0_al hP hD hS hA hl.1 (Y_catch l G h0 a (upd (upd (upd (upd (upd (upd (upd (upd (upd (upd (upd (upd (upd (upd F 2 (nI sz)) 5 (nI cs)) 6 (nI rg)) 7 (nI hd)) 8 (nI dp)) 12 (nI vr)) 13 as9) 16 ls9) 5 (nI cs2)) 6 (nI rg246)) 8 (nI dp2)) 14 wt2) 15 wf2) 16 ls2) (updR (updR (updR R 2 (.ref pq)) 3 (.ref mq)) 4 (va_rf lp9)) Z (updA (updA (updA (updA (updA B2 20 f247) 21 f248) 22 f249) 23 f250) 24 f251) J K2 w pq dr ml nd nm cp it s9 x9 mq cs2 vr sz (n - 1) xk1 hd ty240 sl2 ([] : List Nat) hd dp2 rg246 ls2 lp9 g rk pb A2 (upQx Q2 gr2 cs e7 cs2 hd (nI ty240) 0) pd2 sl m9 lw c0 rt (gr2 + 1) as9 hdL slL xb2 xc2 rL (by omega) (BdE.wp hbe2 hwp) (BdE.pt hbe2 hwp hps) (BdE.rko hbe2 hrk) (by omega) (by omega) hng2 hf103 hxT ⟨hxv.1, (by have z9 := hxv; omega)⟩ hf104 hrv (by omega) (by omega) (by omega) (LpO.be hbe2 hlo) (EkA.be hbe2 ((BtR.up (BtR.up (BtR.up (BtR.up (BtR.up hbr2 (by omega)) (by omega)) (by omega)) (by omega)) (by omega)) 7 (by decide)) ((BtR.up (BtR.up (BtR.up (BtR.up (BtR.up hbr2 (by omega)) (by omega)) (by omega)) (by omega)) (by omega)) 11 (by decide)) hek) (OwC.be hbe2 hmq hdr0 hcO) (NaB.be hbe2 hbf2 hwp hps.2.1 hdr0 ((BtR.up (BtR.up (BtR.up (BtR.up (BtR.up hbr2 (by omega)) (by omega)) (by omega)) (by omega)) (by omega)) 11 (by decide)) hna) hen2 hao hst2.1 hwfa (by rw [hfx9]; exact hty240) htn9 (by omega) (by omega) (by omega) (by omega) (SkA.be hbe2 ((BtR.up (BtR.up (BtR.up (BtR.up (BtR.up hbr2 (by omega)) (by omega)) (by omega)) (by omega)) (by omega)) 11 (by decide)) hsk) hlp255 hrq254 hrL hlr2 hxb0 hxbT hxkv hxk (IhZ.lo ist) hO hl0) (gV pw_352 pw_353 pw_354 pw_63 pw_306) hV_X0_catchBlock qr260 0 hqr261 rfl rfl rfl (Nat.le_of_ble_eq_true rfl) dX0_tryStatement_148 ⟨(by show c2 + ((rE (g 2 x9) - rS (g 2 x9)) + 1) ≤ ((rE (g 2 q) - rS (g 2 q)) + 1); omega), (by show (6 * c2) + (6 * (rE (g 2 x9) - rS (g 2 x9)) + 6) ≤ (6 * (rE (g 2 q) - rS (g 2 q)) + 6); omega)⟩ ⟨(by show (5 * (n - 1) + 46) + 1 ≤ (5 * n + 46); omega), (by show 8 + (5 + 11) + (200 * (n - 1) + 1120) ≤ (200 * n + 1120); omega)⟩ (fun v259 u257 H locs hw258 hP hD hS => ?_) (fun ux ce9 q9 H9 locs9 hux hP9 hD9 hS9 hce hcv hcl => pb_out ux (ThQ.up (Thx.same (Thx.same (Thx.same (Thx.same (Thx.same (Thx.same (Thx.same (Thx.same (Thx.b (Thx.b (Thx.b (Thx.b (Thx.b (Thx.f (Thx.f (Thx.f (Thx.f (Thx.f (Thx.f (Bth.thx hbb2) (by omega)) (by omega)) (by omega)) (by omega)) (by omega)) (by omega)) (by omega) (by decide)) (by omega) (by decide)) (by omega) (by decide)) (by omega) (by decide)) (by omega) (by decide)) rfl) rfl) rfl) rfl) rfl) rfl) rfl) rfl) (show RhX (updR (updR (updR R 2 (.ref pq)) 3 (.ref mq)) 4 (va_rf lp9)) (updR (updR (updR (updR (updR (updR R 2 (.ref pq)) 3 (.ref mq)) 4 (va_rf lp9)) 2 (.ref pq)) 3 (.ref mq)) 4 (va_rf lp9)) from fun k9 hk9 => by unfold updR; simp only [show ¬ k9 = 1 by omega, show ¬ k9 = 2 by omega, show ¬ k9 = 3 by omega, show ¬ k9 = 4 by omega, if_false]) hux) hnt hlocks hce hcv hcl hP9 hD9 hS9 (by show c2 + ((rE (g 2 x9) - rS (g 2 x9)) + 1) ≤ ((rE (g 2 q) - rS (g 2 q)) + 1); omega) (by show (6 * c2) + (6 * (rE (g 2 x9) - rS (g 2 x9)) + 6) ≤ (6 * (rE (g 2 q) - rS (g 2 q)) + 6); omega))
        obtain ⟨w, K262, B263, cs264, as265, wt266, wf267, dp268, Ag269, rg270, gr271, ls272, Q273, pd274, xb275, xc276⟩ := u257
        obtain ⟨hw258, h277, h278, h279, h280, h281, h282, h283, h284, h285, h286, h287, h288, h289, h290, h291, h292, h293, hO⟩ := hw258
        replace h277 : SmW (updA (updA (updA (updA (updA B2 20 f247) 21 f248) 22 f249) 23 f250) 24 f251) B263 cs2 := h277
        replace h278 : BdE K2 K262 := h278
        replace h279 : BeF K2 K262 := h279
        replace h280 : BeL K2 K262 lp9 := h280
        replace h281 : Bth (updA (updA (updA (updA (updA B2 20 f247) 21 f248) 22 f249) 23 f250) 24 f251) B263 := h281
        replace h282 : BtR (updA (updA (updA (updA (updA B2 20 f247) 21 f248) 22 f249) 23 f250) 24 f251) B263 := h282
        replace h283 : cs2 ≤ cs264 ∧ cs264 + 10 ≤ cs2 + 2 * tlE g x9 := h283
        replace h284 : dp2 ≤ dp268 ∧ dp268 ≤ 71 := h284
        replace h285 : AsO as265 := h285
        replace h286 : VrS (updA (updA (updA (updA (updA B2 20 f247) 21 f248) 22 f249) 23 f250) 24 f251) B263 vr := h286
        replace h287 : (gr2 + 1) ≤ gr271 ∧ rg270 ≤ 625 ∧ rg270 ≤ gr271 ∧ (rg270 = 625 ∨ rg270 = gr271) := h287
        replace h288 : EnV (B263 26) (B263 27) nd vr hd c0 sl := h288
        replace h289 : CaW pb.1 pb.2.1 pb.2.2.1 pb.2.2.2 A2 Ag269 (upQx Q2 gr2 cs e7 cs2 hd (nI ty240) 0) Q273 pd2 pd274 m9 dp268 lw cs2 cs264 as9 as265 hd sl ty240 (gr2 + 1) gr271 (B263 16) (B263 17) (B263 18) (B263 19) := h289
        replace h290 : LpS K262 (B263 16) (B263 17) Ag269 pd274 lp9 lw cs264 hd sl hdL slL xb275 xc276 := h290
        replace h291 : PdS pd2 pd274 xb2 xb275 xc2 xc276 [] cs2 cs264 := h291
        replace h292 : RgQx B263 Q273 gr271 nd := h292
        replace h293 : LpR K262 lp9 rL := h293
        obtain rfl : v259 = none := hw258
        have hf294 : K262.1 pq = 7 := (BdE.T h278 hf95 (by decide))
        have hf295 : K262.2.2.1 18 pq = some (a 1) := (BdE.C h278 (by rw [hf95]; decide) 18).trans hf96
        have hf296 : K262.2.2.1 14 pq = some dr := (BdE.C h278 (by rw [hf95]; decide) 14).trans hf97
        have hf297 : K262.1 dr = 8 := (BdE.T h278 hf98 (by decide))
        have hf298 : K262.2.2.1 15 pq = some ml := (BdE.C h278 (by rw [hf95]; decide) 15).trans hf99
        have hf299 : K262.1 ml = 5 := (BdE.T h278 hf100 (by decide))
        have hf300 : K262.2.1 24 pq = (nI nd) := (BdE.I h278 (by rw [hf95]; decide) (by decide) (by decide)).trans hf101
        have hf301 : K262.1 q = 1 := (BdE.T h278 hf102 (by decide))
        have hf302 : K262.1 mq = 3 := (BdE.T h278 hf103 (by decide))
        have hf303 : K262.2.1 10 mq = (nI rt) := (BdE.I h278 (by rw [hf103]; decide) (by decide) (by decide)).trans hf104
        have hf304 : K262.2.2.1 0 q = some q1 := (BdE.C h278 (by rw [hf102]; decide) 0).trans hf105
        have hf305 : K262.1 q1 = 1 := (BdE.T h278 hf106 (by decide))
        have hf306 : K262.2.2.1 2 q = some q3 := (BdE.C h278 (by rw [hf102]; decide) 2).trans hf107
        have hf307 : K262.1 q3 = 1 := (BdE.T h278 hf108 (by decide))
        have hf308 : K262.2.1 0 q1 = 21 := (BdE.I h278 (by rw [hf106]; decide) (by decide) (by decide)).trans hf109
        have hf309 : K262.2.1 0 q3 = 21 := (BdE.I h278 (by rw [hf108]; decide) (by decide) (by decide)).trans hf110
        have hf310 : K262.2.1 0 q = 32 := (BdE.I h278 (by rw [hf102]; decide) (by decide) (by decide)).trans hf111
        have hf311 : K262.1 x9 = 1 := (BdE.T h278 hxT (by decide))
        have hf312 : K262.2.1 0 x9 = 35 := (BdE.I h278 (by rw [hxT]; decide) (by decide) (by decide)).trans hxk
        have hf313 : K262.2.2.1 0 x9 = some xk1 := (BdE.C h278 (by rw [hxT]; decide) 0).trans hxb0
        have hf314 : K262.1 xk1 = 1 := (BdE.T h278 hxbT (by decide))
        have hf315 : K262.2.1 2 x9 = fx9 := (BdE.I h278 (by rw [hxT]; decide) (by decide) (by decide)).trans hfx9
        have hO : OKP G h0 a (upd (upd (upd (upd (upd (upd (upd (upd (upd (upd F 2 (nI sz)) 5 (nI cs264)) 6 (nI rg270)) 7 (nI hd)) 8 (nI dp268)) 12 (nI vr)) 13 as265) 14 wt266) 15 wf267) 16 ls272) (updR (updR (updR R 2 (.ref pq)) 3 (.ref mq)) 4 (va_rf lp9)) Z B263 J K262 w := hO.to rfl
        refine W.widen (k := (c2 + (rE (g 2 x9) - rS (g 2 x9)))) (n := ((6 * c2) + (6 * (rE (g 2 x9) - rS (g 2 x9))))) (by show c2 + (rE (g 2 x9) - rS (g 2 x9)) ≤ (c2 + (rE (g 2 x9) - rS (g 2 x9))); omega) (by show (6 * c2) + (6 * (rE (g 2 x9) - rS (g 2 x9))) ≤ ((6 * c2) + (6 * (rE (g 2 x9) - rS (g 2 x9)))); omega) ?_
        refine W.eq (g2 := F0 m 151 ls []) rfl ?_
        have hbe316 := BdE.trans hbe2 h278
        have hbb317 : Bth B B263 := Bth.trans (show Thx (upd (upd (upd (upd (upd (upd (upd (upd F 2 (nI sz)) 5 (nI cs)) 6 (nI rg)) 7 (nI hd)) 8 (nI dp)) 12 (nI vr)) 13 as9) 16 ls9) (upd (upd (upd (upd (upd (upd (upd (upd (upd (upd (upd (upd (upd (upd F 2 (nI sz)) 5 (nI cs)) 6 (nI rg)) 7 (nI hd)) 8 (nI dp)) 12 (nI vr)) 13 as9) 16 ls9) 5 (nI cs2)) 6 (nI rg246)) 8 (nI dp2)) 14 wt2) 15 wf2) 16 ls2) B (updA (updA (updA (updA (updA B2 20 f247) 21 f248) 22 f249) 23 f250) 24 f251) from (Thx.b (Thx.b (Thx.b (Thx.b (Thx.b (Thx.f (Thx.f (Thx.f (Thx.f (Thx.f (Thx.f (Bth.thx hbb2) (by omega)) (by omega)) (by omega)) (by omega)) (by omega)) (by omega)) (by omega) (by decide)) (by omega) (by decide)) (by omega) (by decide)) (by omega) (by decide)) (by omega) (by decide))).2 h281
        have hng318 : Nng (B263 18) := h281.2 hng2
        have hsw319 : ∀ x9 : Nat, x9 < cs → (B263 16) x9 = B 16 x9 := fun x9 hx9 => ((h277 x9 (by omega)).1).trans ((fun x9 hx9 => (hsw2 x9 hx9).1) x9 hx9)
        have hsw320 : ∀ x9 : Nat, x9 < cs → (B263 17) x9 = B 17 x9 := fun x9 hx9 => ((h277 x9 (by omega)).2.1).trans ((fun x9 hx9 => (hsw2 x9 hx9).2.1) x9 hx9)
        have hsw321 : ∀ x9 : Nat, x9 < cs → (B263 18) x9 = B 18 x9 := fun x9 hx9 => ((h277 x9 (by omega)).2.2.1).trans ((fun x9 hx9 => (hsw2 x9 hx9).2.2.1) x9 hx9)
        have hsw322 : ∀ x9 : Nat, x9 < cs → (B263 19) x9 = B 19 x9 := fun x9 hx9 => ((h277 x9 (by omega)).2.2.2).trans ((fun x9 hx9 => (hsw2 x9 hx9).2.2.2) x9 hx9)
        have hbf323 := BeF.trans hbf2 h279 hbe2
        have hbl325 : BeL K K262 lp9 := BeL.trans hbl2 h280 hbe2
        have hbr324 : BtR B B263 := BtR.trans (BtR.up (BtR.up (BtR.up (BtR.up (BtR.up hbr2 (by omega)) (by omega)) (by omega)) (by omega)) (by omega)) h282
        have hvs326 : VrS B B263 vr := VrS.trans hvs2 h286 (by omega)
        have hpd328 : PdS pd pd274 xb xb275 xc xc276 xs2 cs cs264 := PdS.call hpd2 h291 (by omega) (by omega)
        refine lv_aload_n hx hb dX0_tryStatement_151 rfl (lv_at hl 10 rfl) ?_
        refine c_get (v := .ref (a 2)) (C := RX0) (Tc := TX0) (N := 13) (ci := 0) hx hb hq pin_wsX00 hown hE hP hO 24 (sg_24 G h0 a _ _ _ _ _) rfl 1 (by decide) (hq _ pw_5) (fun _ h9 => h9) rfl dX0_tryStatement_152 ?_
        refine lv_iload_n hx hb dX0_tryStatement_155 rfl (lv_at hl 7 rfl) ?_
        refine lv_iload hx hb dX0_tryStatement_156 (lv_at hl 2 rfl) ?_
        refine lv_iload hx hb dX0_tryStatement_158 (lv_at hl 6 rfl) ?_
        have hO : OKW G h0 a (upd (upd (upd (upd (upd (upd (upd (upd (upd (upd (upd (upd F 2 (nI sz)) 5 (nI cs264)) 6 (nI rg270)) 7 (nI hd)) 8 (nI dp268)) 12 (nI vr)) 13 as265) 14 wt266) 15 wf267) 16 ls272) 5 (nI cs264)) 7 (nI hd)) (updR (updR (updR R 2 (.ref pq)) 3 (.ref mq)) 4 (va_rf lp9)) Z B263 J K262.1 (fun q99 x99 => x99 = rep G a K262 q99) w := hO.to rfl
        obtain ⟨_, qr332, hqr333⟩ := hO.2.1 13 _ (sg_13 G h0 a _ _ _ _ _)
        refine pc_V0 (G := G) (As := [.int 29, .int b8, .int (nI hd)]) (rest := []) hx hb hml hown hq hE hX pX0_al hP hD hS hA hl.1 (Y_jump l G h0 a (upd (upd (upd (upd (upd (upd (upd (upd (upd (upd F 2 (nI sz)) 5 (nI cs264)) 6 (nI rg270)) 7 (nI hd)) 8 (nI dp268)) 12 (nI vr)) 13 as265) 14 wt266) 15 wf267) 16 ls272) (updR (updR (updR R 2 (.ref pq)) 3 (.ref mq)) 4 (va_rf lp9)) Z B263 J K262.1 (fun q99 x99 => x99 = rep G a K262 q99) w 29 b8 (nI hd) cs264 hd (by omega) hO) (gV pw_197 pw_198 pw_199 pw_70 pw_132) hV_X1_jump qr332 1 hqr333 rfl rfl rfl (Nat.le_of_ble_eq_true rfl) dX0_tryStatement_160 ⟨(by show (c2 + (rE (g 2 x9) - rS (g 2 x9))) + 0 ≤ ((rE (g 2 q) - rS (g 2 q)) + 1); omega), (by show ((6 * c2) + (6 * (rE (g 2 x9) - rS (g 2 x9)))) + 0 ≤ (6 * (rE (g 2 q) - rS (g 2 q)) + 6); omega)⟩ ⟨(by show 3 + 1 ≤ (5 * n + 46); omega), (by show 8 + (4 + 11) + 83 ≤ (200 * n + 1120); omega)⟩ (fun v331 u329 H locs hw330 hP hD hS => ?_)
        obtain ⟨w, _⟩ := u329
        obtain ⟨hw330, hO⟩ := hw330
        obtain rfl : v331 = some (.int (nI cs264)) := hw330
        have hO : OKP G h0 a (upd (upd (upd (upd (upd (upd (upd (upd (upd (upd F 2 (nI sz)) 5 (nI (cs264 + 1))) 6 (nI rg270)) 7 (nI hd)) 8 (nI dp268)) 12 (nI vr)) 13 as265) 14 wt266) 15 wf267) 16 ls272) (updR (updR (updR R 2 (.ref pq)) 3 (.ref mq)) 4 (va_rf lp9)) Z (updA (updA (updA (updA B263 16 (upd ((B263 16)) cs264 29)) 17 (upd ((B263 17)) cs264 b8)) 18 (upd ((B263 18)) cs264 (nI hd))) 19 (upd ((B263 19)) cs264 (nI hd))) J K262 w := hO.to rfl
        refine W.widen (k := (c2 + (rE (g 2 x9) - rS (g 2 x9)))) (n := ((6 * c2) + (6 * (rE (g 2 x9) - rS (g 2 x9))))) (by show (c2 + (rE (g 2 x9) - rS (g 2 x9))) + 0 ≤ (c2 + (rE (g 2 x9) - rS (g 2 x9))); omega) (by show ((6 * c2) + (6 * (rE (g 2 x9) - rS (g 2 x9)))) + 0 ≤ ((6 * c2) + (6 * (rE (g 2 x9) - rS (g 2 x9)))); omega) ?_
        refine W.eq (g2 := F0 m 163 ls [.int (nI cs264)]) rfl ?_
        have hsw334 : ∀ x9 : Nat, x9 < cs → (upd ((B263 16)) cs264 29) x9 = B 16 x9 := fun x9 hx9 => (if_neg (by omega)).trans (hsw319 x9 hx9)
        have hsw335 : ∀ x9 : Nat, x9 < cs → (upd ((B263 17)) cs264 b8) x9 = B 17 x9 := fun x9 hx9 => (if_neg (by omega)).trans (hsw320 x9 hx9)
        have hsw336 : ∀ x9 : Nat, x9 < cs → (upd ((B263 18)) cs264 (nI hd)) x9 = B 18 x9 := fun x9 hx9 => (if_neg (by omega)).trans (hsw321 x9 hx9)
        have hsw337 : ∀ x9 : Nat, x9 < cs → (upd ((B263 19)) cs264 (nI hd)) x9 = B 19 x9 := fun x9 hx9 => (if_neg (by omega)).trans (hsw322 x9 hx9)
        have hcat := StW.catch (k := 29) hst2 hai2 (fun x9 hx9 => ⟨(h277 x9 hx9).1, (h277 x9 hx9).2.1⟩) (by omega) h289 (by omega) ⟨by omega, by omega⟩ (by omega) (by decide) (nI hd) b8
        obtain ⟨Ag338, hst339, hai340, hag341⟩ : ∃ A5 : Nat → AS, StW pb.1 pb.2.1 pb.2.2.1 pb.2.2.2 Ag A5 Q9 Q273 pd (fun z => pd274 z ∨ z = cs264) m9 dp268 lw cs (cs264 + 1) as9 (-1) hd hd sl (upM sl hd ty240) gr gr271 (upd ((B263 16)) cs264 29) (upd ((B263 17)) cs264 b8) (upd ((B263 18)) cs264 (nI hd)) (upd ((B263 19)) cs264 (nI hd)) ([] : List Nat) ∧ AiL A5 (upd ((B263 16)) cs264 29) (upd ((B263 17)) cs264 b8) (fun z => pd274 z ∨ z = cs264) cs (cs264 + 1) ∧ ∀ x9 : Nat, x9 ≤ cs264 → A5 x9 = Ag269 x9 := ⟨_, hcat.1, hcat.2, fun x9 hx9 => upS_ne (by omega)⟩
        have hlp342 : LpS K262 (upd ((B263 16)) cs264 29) (upd ((B263 17)) cs264 b8) Ag338 (fun z => pd274 z ∨ z = cs264) lp9 lw (cs264 + 1) hd (upM sl hd ty240) hdL slL xb275 xc276 := LpS.same h290 (fun _ _ _ _ _ => rfl) (fun z9 hz9 => ⟨if_neg (by omega), if_neg (by omega), hag341 z9 (by omega)⟩) (fun _ h9 => Or.inl h9) (fun z9 h9 => h9.elim (fun h8 => Nat.lt_succ_of_lt (h290.1 z9 h8)) (fun h8 => by omega)) (by omega) ⟨Nat.le_refl _, upM_lo⟩
        have hng343 : Nng (upd ((B263 18)) cs264 (nI hd)) := Nng.set hng318 (k := hd) (by omega)
        have hpd344 : PdS pd (fun z => pd274 z ∨ z = cs264) xb xb275 xc xc276 (cs264 :: xs2) cs (cs264 + 1) := PdS.jmp hpd328 (LpS.lt h290).1 (LpS.lt h290).2 (by omega)
        have hch345 : ChnJ (upd ((B263 17)) cs264 b8) (nI cs264) (cs264 :: xs2) := ChnJ.emit (ChnJ.same hch2 (fun y9 hy9 => (h277 y9 (PdS.js hpd2 y9 hy9).2.1).2.1)) (by omega) (fun y9 hy9 => by have z9 := (PdS.js hpd2 y9 hy9).2.1; omega)
        have hj346 : Ag338 cs264 = (rcA as265, hd, upM sl hd ty240, ([] : List Nat)) := (hag341 cs264 (Nat.le_refl _)).trans h289.1.1.2
        have hjw347 : EntJ (upd ((B263 16)) cs264 29) (upd ((B263 18)) cs264 (nI hd)) Ag338 (cs264 :: xs2) lw (cs264 + 1) hd sl (b9 &&& as265) := EntJ.cons (cs := cs264) (EntJ.same hj2 (fun z9 hz9 => ⟨(h277 z9 hz9).1, (h277 z9 hz9).2.2.1, h289.2.2.1 z9 hz9⟩) (by omega)) ⟨by omega, by omega, (if_pos rfl), (if_pos rfl), fun z9 => by rw [hj346] at z9 ⊢; exact ⟨and_n2 (rcA_of z9), rfl, upM_lo, rfl⟩⟩ (fun z9 hz9 => ⟨if_neg (by omega), if_neg (by omega), hag341 z9 (by omega)⟩) (by omega) (fun z9 => and_n1 z9)
        have hb9348 : AsO (b9 &&& as265) ∧ (¬ (b9 &&& as265) = -1 → ¬ as9 = -1) := ⟨AsO.and hb92.1 h285, fun z9 e9 => z9 (and_m1.mpr ⟨Classical.byContradiction fun y9 => hb92.2 y9 e9, Classical.byContradiction fun y9 => h289.2.2.2.2.2.2.1 y9 e9⟩)⟩
        refine lv_istore (lv' := [(8, .int (nI cs264)), (10, .ref x9), (9, .int b9), (7, .int (nI e7)), (6, .int (nI cs)), (5, .int as9), (4, .int (nI hd)), (3, .int 29), (2, .int 1), (1, .ref q), (0, .ref (a 4))]) hx hb dX0_tryStatement_163 hl (by decide) rfl (fun ls hl => ?_)
        refine lv_iload hx hb dX0_tryStatement_165 (lv_at hl 2 rfl) ?_
        refine lv_aload_n hx hb dX0_tryStatement_167 rfl (lv_at hl 10 rfl) ?_
        refine c_get (v := .int as265) (C := RX0) (Tc := TX0) (N := 13) (ci := 0) hx hb hq pin_wsX00 hown hE hP hO 24 (sg_24 G h0 a _ _ _ _ _) rfl 8 (by decide) (hq _ pw_55) (fun _ h9 => h9) rfl dX0_tryStatement_168 ?_
        refine lv_iand hx hb dX0_tryStatement_171 ?_
        refine lv_topi (fun x349 e350 => ?_)
        obtain rfl : x349 = (b9 &&& as265) := e350
        refine lv_istore (lv' := [(9, .int (b9 &&& as265)), (8, .int (nI cs264)), (10, .ref x9), (7, .int (nI e7)), (6, .int (nI cs)), (5, .int as9), (4, .int (nI hd)), (3, .int 29), (2, .int 1), (1, .ref q), (0, .ref (a 4))]) hx hb dX0_tryStatement_172 hl (by decide) rfl (fun ls hl => ?_)
        refine lv_aload hx hb dX0_tryStatement_174 (lv_at hl 2 rfl) ?_
        rcases ho352 : K262.2.2.1 4 x9 with _ | o351
        · skip
          refine p_get (v := .null) (C := RX7) (Tc := TX7) (N := 11) (ci := 13) hx hb hq pin_wsX70 hown hE hP hO (by rw [hf311]; decide) (rep_1 hf311) rfl 10 (by decide) (hq _ pw_170) (fun _ h9 => h9) (congrArg (fun z => some (va_rf z)) ho352) dX0_tryStatement_176 ?_
          refine lv_astoreN (lv' := [(10, .null), (9, .int (b9 &&& as265)), (8, .int (nI cs264)), (7, .int (nI e7)), (6, .int (nI cs)), (5, .int as9), (4, .int (nI hd)), (3, .int 29), (2, .int 1), (1, .ref q), (0, .ref (a 4))]) hx hb dX0_tryStatement_179 hl (by decide) rfl (fun ls hl => ?_)
          refine lv_goto (tgt := 109) hx hb dX0_tryStatement_181 (by decide) ?_
          refine W.widen (k := (c2 + (rE (g 2 x9) - rS (g 2 x9)))) (n := (6 * (c2 + (rE (g 2 x9) - rS (g 2 x9))))) (by show (c2 + (rE (g 2 x9) - rS (g 2 x9))) ≤ _; omega) (by show ((6 * c2) + (6 * (rE (g 2 x9) - rS (g 2 x9)))) ≤ _; omega) ?_
          have hO : OKP G h0 a (upd (upd (upd (upd (upd (upd (upd (upd (upd (upd F 2 (nI sz)) 5 (nI (cs264 + 1))) 6 (nI rg270)) 7 (nI hd)) 8 (nI dp268)) 12 (nI vr)) 13 as265) 14 wt266) 15 wf267) 16 ls272) (updR (updR (updR R 2 (.ref pq)) 3 (.ref mq)) 4 (va_rf lp9)) Z (updA (updA (updA (updA B263 16 (upd ((B263 16)) cs264 29)) 17 (upd ((B263 17)) cs264 b8)) 18 (upd ((B263 18)) cs264 (nI hd))) 19 (upd ((B263 19)) cs264 (nI hd))) J K262 w := hO.to rfl
          exact ih_g (g 2 x9 + 1) none K262 (updA (updA (updA (updA B263 16 (upd ((B263 16)) cs264 29)) 17 (upd ((B263 17)) cs264 b8)) 18 (upd ((B263 18)) cs264 (nI hd))) 19 (upd ((B263 19)) cs264 (nI hd))) (cs264 + 1) as265 wt266 wf267 dp268 rg270 gr271 ls272 Ag338 (upM sl hd ty240) Q273 (fun z => pd274 z ∨ z = cs264) xb275 xc276 (rE (g 2 x9)) (c2 + (rE (g 2 x9) - rS (g 2 x9))) e7 (nI cs264) (b9 &&& as265) (cs264 :: xs2) _ _ _ _ (by omega) (by omega) hbe316 hbf323 hbl325 (BtR.up (BtR.up (BtR.up (BtR.up hbr324 (by omega)) (by omega)) (by omega)) (by omega)) ((show Thx (upd (upd (upd (upd (upd (upd (upd (upd F 2 (nI sz)) 5 (nI cs)) 6 (nI rg)) 7 (nI hd)) 8 (nI dp)) 12 (nI vr)) 13 as9) 16 ls9) (upd (upd (upd (upd (upd (upd (upd (upd (upd (upd (upd (upd (upd (upd (upd F 2 (nI sz)) 5 (nI cs)) 6 (nI rg)) 7 (nI hd)) 8 (nI dp)) 12 (nI vr)) 13 as9) 16 ls9) 5 (nI (cs264 + 1))) 6 (nI rg270)) 8 (nI dp268)) 13 as265) 14 wt266) 15 wf267) 16 ls272) B (updA (updA (updA (updA B263 16 (upd ((B263 16)) cs264 29)) 17 (upd ((B263 17)) cs264 b8)) 18 (upd ((B263 18)) cs264 (nI hd))) 19 (upd ((B263 19)) cs264 (nI hd))) from (Thx.b (Thx.b8 (Thx.b (Thx.b (Thx.f (Thx.f (Thx.f (Thx.f (Thx.f (Thx.f (Thx.f (Bth.thx hbb317) (by omega)) (by omega)) (by omega)) (by omega)) (by omega)) (by omega)) (by omega)) (by omega) (by decide)) (by omega) (by decide)) hng343) (by omega) (by decide))).2) hng343 (fun x9 hx9 => ⟨hsw334 x9 hx9, hsw335 x9 hx9, hsw336 x9 hx9, hsw337 x9 hx9⟩) hvs326 h285 (by omega) (by omega) hst339 hlp342 hpd344 h292 h293 h288 hai340 hch345 hjw347 hb9348 (MmO.next (BdE.wp hbe316 hwp).1 hqL.1 hf311 hxd.2.1 hxd.2.2.2.1 ho352) (by omega) (by omega) hP hD hS hO (lv_sub hl [0, 1, 2, 3, 4, 5, 6, 7, 8, 9, 10] rfl)
        · skip
          refine p_get (v := .ref o351) (C := RX7) (Tc := TX7) (N := 11) (ci := 13) hx hb hq pin_wsX70 hown hE hP hO (by rw [hf311]; decide) (rep_1 hf311) rfl 10 (by decide) (hq _ pw_170) (fun _ h9 => h9) (congrArg (fun z => some (va_rf z)) ho352) dX0_tryStatement_176 ?_
          refine lv_astore (lv' := [(10, .ref o351), (9, .int (b9 &&& as265)), (8, .int (nI cs264)), (7, .int (nI e7)), (6, .int (nI cs)), (5, .int as9), (4, .int (nI hd)), (3, .int 29), (2, .int 1), (1, .ref q), (0, .ref (a 4))]) hx hb dX0_tryStatement_179 hl (by decide) rfl (fun ls hl => ?_)
          refine lv_goto (tgt := 109) hx hb dX0_tryStatement_181 (by decide) ?_
          refine W.widen (k := (c2 + (rE (g 2 x9) - rS (g 2 x9)))) (n := (6 * (c2 + (rE (g 2 x9) - rS (g 2 x9))))) (by show (c2 + (rE (g 2 x9) - rS (g 2 x9))) ≤ _; omega) (by show ((6 * c2) + (6 * (rE (g 2 x9) - rS (g 2 x9)))) ≤ _; omega) ?_
          have hO : OKP G h0 a (upd (upd (upd (upd (upd (upd (upd (upd (upd (upd F 2 (nI sz)) 5 (nI (cs264 + 1))) 6 (nI rg270)) 7 (nI hd)) 8 (nI dp268)) 12 (nI vr)) 13 as265) 14 wt266) 15 wf267) 16 ls272) (updR (updR (updR R 2 (.ref pq)) 3 (.ref mq)) 4 (va_rf lp9)) Z (updA (updA (updA (updA B263 16 (upd ((B263 16)) cs264 29)) 17 (upd ((B263 17)) cs264 b8)) 18 (upd ((B263 18)) cs264 (nI hd))) 19 (upd ((B263 19)) cs264 (nI hd))) J K262 w := hO.to rfl
          exact ih_g (g 2 x9 + 1) (some o351) K262 (updA (updA (updA (updA B263 16 (upd ((B263 16)) cs264 29)) 17 (upd ((B263 17)) cs264 b8)) 18 (upd ((B263 18)) cs264 (nI hd))) 19 (upd ((B263 19)) cs264 (nI hd))) (cs264 + 1) as265 wt266 wf267 dp268 rg270 gr271 ls272 Ag338 (upM sl hd ty240) Q273 (fun z => pd274 z ∨ z = cs264) xb275 xc276 (rE (g 2 x9)) (c2 + (rE (g 2 x9) - rS (g 2 x9))) e7 (nI cs264) (b9 &&& as265) (cs264 :: xs2) _ _ _ _ (by omega) (by omega) hbe316 hbf323 hbl325 (BtR.up (BtR.up (BtR.up (BtR.up hbr324 (by omega)) (by omega)) (by omega)) (by omega)) ((show Thx (upd (upd (upd (upd (upd (upd (upd (upd F 2 (nI sz)) 5 (nI cs)) 6 (nI rg)) 7 (nI hd)) 8 (nI dp)) 12 (nI vr)) 13 as9) 16 ls9) (upd (upd (upd (upd (upd (upd (upd (upd (upd (upd (upd (upd (upd (upd (upd F 2 (nI sz)) 5 (nI cs)) 6 (nI rg)) 7 (nI hd)) 8 (nI dp)) 12 (nI vr)) 13 as9) 16 ls9) 5 (nI (cs264 + 1))) 6 (nI rg270)) 8 (nI dp268)) 13 as265) 14 wt266) 15 wf267) 16 ls272) B (updA (updA (updA (updA B263 16 (upd ((B263 16)) cs264 29)) 17 (upd ((B263 17)) cs264 b8)) 18 (upd ((B263 18)) cs264 (nI hd))) 19 (upd ((B263 19)) cs264 (nI hd))) from (Thx.b (Thx.b8 (Thx.b (Thx.b (Thx.f (Thx.f (Thx.f (Thx.f (Thx.f (Thx.f (Thx.f (Bth.thx hbb317) (by omega)) (by omega)) (by omega)) (by omega)) (by omega)) (by omega)) (by omega)) (by omega) (by decide)) (by omega) (by decide)) hng343) (by omega) (by decide))).2) hng343 (fun x9 hx9 => ⟨hsw334 x9 hx9, hsw335 x9 hx9, hsw336 x9 hx9, hsw337 x9 hx9⟩) hvs326 h285 (by omega) (by omega) hst339 hlp342 hpd344 h292 h293 h288 hai340 hch345 hjw347 hb9348 (MmO.next (BdE.wp hbe316 hwp).1 hqL.1 hf311 hxd.2.1 hxd.2.2.2.1 ho352) (by omega) (by omega) hP hD hS hO (lv_sub hl [0, 1, 2, 3, 4, 5, 6, 7, 8, 9, 10] rfl)
  refine lv_aload_n hx hb dX0_tryStatement_103 rfl (lv_at hl 9 rfl) ?_
  rcases ho354 : K11.2.2.1 1 q with _ | o353
  · skip
    refine p_get (v := .null) (C := RX7) (Tc := TX7) (N := 11) (ci := 13) hx hb hq pin_wsX70 hown hE hP hO (by rw [hf50]; decide) (rep_1 hf50) rfl 7 (by decide) (hq _ pw_169) (fun _ h9 => h9) (congrArg (fun z => some (va_rf z)) ho354) dX0_tryStatement_104 ?_
    refine lv_astoreN (lv' := [(10, .null), (9, .int as14), (8, .int (nI cs13)), (7, .int (nI cs13)), (6, .int (nI cs)), (5, .int as9), (4, .int (nI hd)), (3, .int 29), (2, .int 1), (0, .ref (a 4)), (1, .ref q)]) hx hb dX0_tryStatement_107 hl (by decide) rfl (fun ls hl => ?_)
    refine W.widen (k := (rE (g 2 q1) - rS (g 2 q1) - 2)) (n := (6 * (rE (g 2 q1) - rS (g 2 q1) - 2))) (by show (rE (g 2 q1) - rS (g 2 q1) - 2) ≤ _; omega) (by show (6 * (rE (g 2 q1) - rS (g 2 q1) - 2)) ≤ _; omega) ?_
    have hO : OKP G h0 a (upd (upd (upd (upd (upd (upd (upd (upd (upd (upd F 2 (nI sz)) 5 (nI (cs13 + 1))) 6 (nI rg19)) 7 (nI hd)) 8 (nI dp17)) 12 (nI vr)) 13 as14) 14 wt15) 15 wf16) 16 ls21) (updR (updR (updR R 2 (.ref pq)) 3 (.ref mq)) 4 (va_rf lp9)) Z (updA (updA (updA (updA B12 16 (upd ((B12 16)) cs13 29)) 17 (upd ((B12 17)) cs13 (-1))) 18 (upd ((B12 18)) cs13 (nI hd))) 19 (upd ((B12 19)) cs13 (nI hd))) J K11 w := hO.to rfl
    exact loop_g (1000000000000000000000001 + 1) 0 none K11 (updA (updA (updA (updA B12 16 (upd ((B12 16)) cs13 29)) 17 (upd ((B12 17)) cs13 (-1))) 18 (upd ((B12 18)) cs13 (nI hd))) 19 (upd ((B12 19)) cs13 (nI hd))) (cs13 + 1) as14 wt15 wf16 dp17 rg19 gr20 ls21 Ag83 sl Q22 (fun z => pd23 z ∨ z = cs13) xb24 xc25 (rM (g 2 q)) (rE (g 2 q1) - rS (g 2 q1) - 2) cs13 (nI cs13) as14 (cs13 :: ([] : List Nat)) _ _ _ _ (by omega) (by omega) hbe60 hbf67 hbl69 (BtR.up (BtR.up (BtR.up (BtR.up hbr68 (by omega)) (by omega)) (by omega)) (by omega)) ((show Thx (upd (upd (upd (upd (upd (upd (upd (upd F 2 (nI sz)) 5 (nI cs)) 6 (nI rg)) 7 (nI hd)) 8 (nI dp)) 12 (nI vr)) 13 as9) 16 ls9) (upd (upd (upd (upd (upd (upd (upd (upd (upd (upd (upd (upd (upd (upd (upd F 2 (nI sz)) 5 (nI cs)) 6 (nI rg)) 7 (nI hd)) 8 (nI dp)) 12 (nI vr)) 13 as9) 16 ls9) 5 (nI (cs13 + 1))) 6 (nI rg19)) 8 (nI dp17)) 13 as14) 14 wt15) 15 wf16) 16 ls21) B (updA (updA (updA (updA B12 16 (upd ((B12 16)) cs13 29)) 17 (upd ((B12 17)) cs13 (-1))) 18 (upd ((B12 18)) cs13 (nI hd))) 19 (upd ((B12 19)) cs13 (nI hd))) from (Thx.b (Thx.b8 (Thx.b (Thx.b (Thx.f (Thx.f (Thx.f (Thx.f (Thx.f (Thx.f (Thx.f (Bth.thx hbb61) (by omega)) (by omega)) (by omega)) (by omega)) (by omega)) (by omega)) (by omega)) (by omega) (by decide)) (by omega) (by decide)) hng87) (by omega) (by decide))).2) hng87 (fun x9 hx9 => ⟨hsw79 x9 hx9, hsw80 x9 hx9, hsw81 x9 hx9, hsw82 x9 hx9⟩) hvs70 h34 (by omega) (by omega) hst84 hlp86 hpd88 h41 h42 h37 hai0 hch0 hjw94 hb90 (MmO.first32 (BdE.wp hbe60 hwp).1 hf50 hqL.1 hf59 ho354) (by omega) (by omega) hP hD hS hO (lv_sub hl [0, 1, 2, 3, 4, 5, 6, 7, 8, 10, 9] rfl)
  · skip
    refine p_get (v := .ref o353) (C := RX7) (Tc := TX7) (N := 11) (ci := 13) hx hb hq pin_wsX70 hown hE hP hO (by rw [hf50]; decide) (rep_1 hf50) rfl 7 (by decide) (hq _ pw_169) (fun _ h9 => h9) (congrArg (fun z => some (va_rf z)) ho354) dX0_tryStatement_104 ?_
    refine lv_astore (lv' := [(10, .ref o353), (9, .int as14), (8, .int (nI cs13)), (7, .int (nI cs13)), (6, .int (nI cs)), (5, .int as9), (4, .int (nI hd)), (3, .int 29), (2, .int 1), (0, .ref (a 4)), (1, .ref q)]) hx hb dX0_tryStatement_107 hl (by decide) rfl (fun ls hl => ?_)
    refine W.widen (k := (rE (g 2 q1) - rS (g 2 q1) - 2)) (n := (6 * (rE (g 2 q1) - rS (g 2 q1) - 2))) (by show (rE (g 2 q1) - rS (g 2 q1) - 2) ≤ _; omega) (by show (6 * (rE (g 2 q1) - rS (g 2 q1) - 2)) ≤ _; omega) ?_
    have hO : OKP G h0 a (upd (upd (upd (upd (upd (upd (upd (upd (upd (upd F 2 (nI sz)) 5 (nI (cs13 + 1))) 6 (nI rg19)) 7 (nI hd)) 8 (nI dp17)) 12 (nI vr)) 13 as14) 14 wt15) 15 wf16) 16 ls21) (updR (updR (updR R 2 (.ref pq)) 3 (.ref mq)) 4 (va_rf lp9)) Z (updA (updA (updA (updA B12 16 (upd ((B12 16)) cs13 29)) 17 (upd ((B12 17)) cs13 (-1))) 18 (upd ((B12 18)) cs13 (nI hd))) 19 (upd ((B12 19)) cs13 (nI hd))) J K11 w := hO.to rfl
    exact loop_g (1000000000000000000000001 + 1) 0 (some o353) K11 (updA (updA (updA (updA B12 16 (upd ((B12 16)) cs13 29)) 17 (upd ((B12 17)) cs13 (-1))) 18 (upd ((B12 18)) cs13 (nI hd))) 19 (upd ((B12 19)) cs13 (nI hd))) (cs13 + 1) as14 wt15 wf16 dp17 rg19 gr20 ls21 Ag83 sl Q22 (fun z => pd23 z ∨ z = cs13) xb24 xc25 (rM (g 2 q)) (rE (g 2 q1) - rS (g 2 q1) - 2) cs13 (nI cs13) as14 (cs13 :: ([] : List Nat)) _ _ _ _ (by omega) (by omega) hbe60 hbf67 hbl69 (BtR.up (BtR.up (BtR.up (BtR.up hbr68 (by omega)) (by omega)) (by omega)) (by omega)) ((show Thx (upd (upd (upd (upd (upd (upd (upd (upd F 2 (nI sz)) 5 (nI cs)) 6 (nI rg)) 7 (nI hd)) 8 (nI dp)) 12 (nI vr)) 13 as9) 16 ls9) (upd (upd (upd (upd (upd (upd (upd (upd (upd (upd (upd (upd (upd (upd (upd F 2 (nI sz)) 5 (nI cs)) 6 (nI rg)) 7 (nI hd)) 8 (nI dp)) 12 (nI vr)) 13 as9) 16 ls9) 5 (nI (cs13 + 1))) 6 (nI rg19)) 8 (nI dp17)) 13 as14) 14 wt15) 15 wf16) 16 ls21) B (updA (updA (updA (updA B12 16 (upd ((B12 16)) cs13 29)) 17 (upd ((B12 17)) cs13 (-1))) 18 (upd ((B12 18)) cs13 (nI hd))) 19 (upd ((B12 19)) cs13 (nI hd))) from (Thx.b (Thx.b8 (Thx.b (Thx.b (Thx.f (Thx.f (Thx.f (Thx.f (Thx.f (Thx.f (Thx.f (Bth.thx hbb61) (by omega)) (by omega)) (by omega)) (by omega)) (by omega)) (by omega)) (by omega)) (by omega) (by decide)) (by omega) (by decide)) hng87) (by omega) (by decide))).2) hng87 (fun x9 hx9 => ⟨hsw79 x9 hx9, hsw80 x9 hx9, hsw81 x9 hx9, hsw82 x9 hx9⟩) hvs70 h34 (by omega) (by omega) hst84 hlp86 hpd88 h41 h42 h37 hai0 hch0 hjw94 hb90 (MmO.first32 (BdE.wp hbe60 hwp).1 hf50 hqL.1 hf59 ho354) (by omega) (by omega) hP hD hS hO (lv_sub hl [0, 1, 2, 3, 4, 5, 6, 7, 8, 10, 9] rfl)

set_option maxHeartbeats 60000000 in
set_option maxRecDepth 100000 in
theorem Y_loop (l : Launch) (G : pT) (h0 : Nat) (a : Nat → Nat) (F : Nat → Int32) (R : Nat → Value) (Z : Int64) (B : Nat → Nat → Int32) (J : Nat → Nat → Int64) (K : PK) (w : va_W) (pq : Nat) (dr : Nat) (ml : Nat) (nd : Nat) (nm : Nat) (cp : Nat) (it : Nat → Nat) (s9 : Nat) (q : Nat) (mq : Nat) (cs : Nat) (vr : Nat) (sz : Nat) (n : Nat) (q4 : Nat) (hd : Nat) (dp : Nat) (rg : Nat) (ls9 : Int32) (lp9 : Option Nat) (g : Nat → Nat → Nat) (rk : Nat → Nat) (pb : PNb) (Ag : Nat → AS) (Q9 : RX) (pd : Nat → Prop) (sl : Nat → Nat) (m9 : Nat) (lw : Nat) (c0 : Nat) (rt : Nat) (gr : Nat) (as9 : Int32) (hdL : Nat) (slL : Nat → Nat) (xb : List Nat) (xc : List Nat) (rL : Prop) (hsz : sz ≤ 5000) (hwp : WPr G K g) (hps : PgT G K g (a 1) pq dr ml nd nm cp it s9) (hrk : RkO K rk) (hcs : cs ≤ 10000) (hvr : vr ≤ 30) (hng : Nng (B 18)) (hmq : K.1 mq = 3) (hqT : K.1 q = 1) (hqL : 1 ≤ g 0 q ∧ g 0 q ≤ n) (hrt : K.2.1 10 mq = nI rt) (hrv : TyV nd rt ∧ (bX pb).2.2.2.2.1 m9 = rt) (hdp : dp ≤ 71) (hrg : rg ≤ 625) (hhd : hd ≤ 41 + vr) (hlo : LpO K lp9) (hek : EkA pb K g (B 7) (B 11) sz) (hcO : OwC K dr mq c0) (hna : NaB pb G K (B 11) dr nd sz) (hen : EnV (B 26) (B 27) nd vr hd c0 sl) (hao : AsO as9) (hem : EmB pb B Ag pd m9 dp lw cs as9 hd sl []) (hrm : cs + 2 * tlE g q ≤ 9999) (hgr : rg ≤ 625 ∧ rg ≤ gr ∧ (rg = 625 ∨ rg = gr)) (hns : hd + ndE g q ≤ 41 + vr) (hsk : SkA K g (B 11) sz nd) (hlp : LpS K (B 16) (B 17) Ag pd lp9 lw cs hd sl hdL slL xb xc) (hrq : RgQx B Q9 gr nd) (hrL : ¬ as9 = -1 → rL) (hlr : LpR K lp9 rL) (hc3 : K.2.2.1 3 q = some q4) (ht3 : K.1 q4 = 1) (hv3 : 1 ≤ g 0 q4 ∧ g 0 q4 + 1 ≤ n) (hkd : LpK (K.2.1 0 q)) (ist : IhZ l G n) (hO : OKP G h0 a (upd (upd (upd (upd (upd (upd (upd (upd F 2 (nI sz)) 5 (nI cs)) 6 (nI rg)) 7 (nI hd)) 8 (nI dp)) 12 (nI vr)) 13 as9) 16 ls9) (updR (updR (updR R 2 (.ref pq)) 3 (.ref mq)) 4 (va_rf lp9)) Z B J K w) (hl0 : l.stackTraces = false) : PBn l G pX0 yX0_loopStatement cX0_loopStatement 7 none ({ frames := (5 * n + 46), cells := ((rE (g 2 q) - rS (g 2 q)) + 1), slots := (6 * (rE (g 2 q) - rS (g 2 q)) + 6), locals := (200 * n + 1120) }) [.ref (a 4), .ref q] w (fun (v : Option Value) (u : va_W × (PK × (Nat → Nat → Int32) × Nat × Int32 × Int32 × Int32 × Nat × (Nat → AS) × Nat × Nat × Int32 × RX × (Nat → Prop) × List Nat × List Nat)) => v = none ∧ (SmW B u.2.2.1 cs) ∧ (BdE K u.2.1) ∧ (BeF K u.2.1) ∧ (BeL K u.2.1 lp9) ∧ (Bth B u.2.2.1) ∧ (BtR B u.2.2.1) ∧ (cs ≤ u.2.2.2.1 ∧ u.2.2.2.1 + 1 ≤ cs + 2 * tlE g q) ∧ (dp ≤ u.2.2.2.2.2.2.2.1 ∧ u.2.2.2.2.2.2.2.1 ≤ 71) ∧ (AsO u.2.2.2.2.1) ∧ (VrS B u.2.2.1 vr) ∧ (gr ≤ u.2.2.2.2.2.2.2.2.2.2.1 ∧ u.2.2.2.2.2.2.2.2.2.1 ≤ 625 ∧ u.2.2.2.2.2.2.2.2.2.1 ≤ u.2.2.2.2.2.2.2.2.2.2.1 ∧ (u.2.2.2.2.2.2.2.2.2.1 = 625 ∨ u.2.2.2.2.2.2.2.2.2.1 = u.2.2.2.2.2.2.2.2.2.2.1)) ∧ (EnV (u.2.2.1 26) (u.2.2.1 27) nd vr hd c0 sl) ∧ (StW pb.1 pb.2.1 pb.2.2.1 pb.2.2.2 Ag u.2.2.2.2.2.2.2.2.1 Q9 u.2.2.2.2.2.2.2.2.2.2.2.2.1 pd u.2.2.2.2.2.2.2.2.2.2.2.2.2.1 m9 u.2.2.2.2.2.2.2.1 lw cs u.2.2.2.1 as9 u.2.2.2.2.1 hd hd sl sl gr u.2.2.2.2.2.2.2.2.2.2.1 (u.2.2.1 16) (u.2.2.1 17) (u.2.2.1 18) (u.2.2.1 19) []) ∧ (LpS u.2.1 (u.2.2.1 16) (u.2.2.1 17) u.2.2.2.2.2.2.2.2.1 u.2.2.2.2.2.2.2.2.2.2.2.2.2.1 lp9 lw u.2.2.2.1 hd sl hdL slL u.2.2.2.2.2.2.2.2.2.2.2.2.2.2.1 u.2.2.2.2.2.2.2.2.2.2.2.2.2.2.2) ∧ (PdS pd u.2.2.2.2.2.2.2.2.2.2.2.2.2.1 xb u.2.2.2.2.2.2.2.2.2.2.2.2.2.2.1 xc u.2.2.2.2.2.2.2.2.2.2.2.2.2.2.2 [] cs u.2.2.2.1) ∧ (RgQx u.2.2.1 u.2.2.2.2.2.2.2.2.2.2.2.2.1 u.2.2.2.2.2.2.2.2.2.2.1 nd) ∧ (LpR u.2.1 lp9 rL) ∧ (OKP G h0 a (upd (upd (upd (upd (upd (upd (upd (upd (upd (upd F 2 (nI sz)) 5 (nI u.2.2.2.1)) 6 (nI u.2.2.2.2.2.2.2.2.2.1)) 7 (nI hd)) 8 (nI u.2.2.2.2.2.2.2.1)) 12 (nI vr)) 13 u.2.2.2.2.1) 14 u.2.2.2.2.2.1) 15 u.2.2.2.2.2.2.1) 16 u.2.2.2.2.2.2.2.2.2.2.2.1) (updR (updR (updR R 2 (.ref pq)) 3 (.ref mq)) 4 (va_rf lp9)) Z u.2.2.1 J u.2.1 u.1)) (fun u => u.1) (fun (u : va_W × (PK × (Nat → Nat → Int32) × Nat × Int32 × Int32 × Int32 × Nat × (Nat → AS) × Nat × Nat × Int32 × RX × (Nat → Prop) × List Nat × List Nat)) => (rE (g 2 q) - rS (g 2 q))) (fun (u : va_W × (PK × (Nat → Nat → Int32) × Nat × Int32 × Int32 × Int32 × Nat × (Nat → AS) × Nat × Nat × Int32 × RX × (Nat → Prop) × List Nat × List Nat)) => (6 * (rE (g 2 q) - rS (g 2 q)))) (fun (u : va_W × (Nat → Int32) × (Nat → Value) × (Nat → Nat → Int32)) => ThQ G h0 a (upd (upd (upd (upd (upd (upd (upd (upd F 2 (nI sz)) 5 (nI cs)) 6 (nI rg)) 7 (nI hd)) 8 (nI dp)) 12 (nI vr)) 13 as9) 16 ls9) (updR (updR (updR R 2 (.ref pq)) 3 (.ref mq)) 4 (va_rf lp9)) Z B J u) (fun u => u.1) := by
  intro sz
  refine vx_ofW (cc := cX0_loopStatement) (maxL := 7) (ret := none) (by decide) rfl ?_
  intro p e s m args below meth c s₁ B9 hml hnt hv
  obtain ⟨rfl, hsz, hP, hD0, hE, hX⟩ := hv
  have hx := B9.exec
  have hb := B9.bytes
  have hr := B9.returns
  have hts := atoms_spec (ws := Cond.code yX0_loopStatement cX0_loopStatement 7 none :: pw) B9.pre
  have hq : ∀ w ∈ pw, w.before _ s = true := fun w h => hts w (List.mem_cons_of_mem _ h)
  have hown : s.vm.findClass RX0 = some m.cls := findClass_of_methodNamed B9.named
  have hlocks := B9.notSynchronized
  subst hsz
  have hD := hD0.self (sz := s.heap.size)
  have hA : ∀ q : Nat, s.heap.size ≤ q → va_A w s.heap.size q := fun q h => Or.inr h
  generalize va_A w s.heap.size = A at hD hE hA ⊢
  have hS : va_S A s.heap s.heap [] := va_S.rf
  have hl := lv_entry ([.ref (a 4), .ref q]) (n := 7) (Nat.le_of_ble_eq_true rfl)
  rw [lg_entry_eq]
  generalize (lg_sl ([.ref (a 4), .ref q]) ++ List.replicate (7 - (lg_sl ([.ref (a 4), .ref q])).length) Slot.unset).toArray = ls at hl ⊢
  have hl : lv_has ls 7 [(0, .ref (a 4)), (1, .ref q)] := hl
  have hpg := hps.1
  have hp1 := hpg.1
  have hp2 := hpg.2.1
  have hp3 := hpg.2.2.1
  have hp4 := hpg.2.2.2.1
  have hp5 := hpg.2.2.2.2.1
  have hp6 := hpg.2.2.2.2.2.1
  have hp8 := hpg.2.2.2.2.2.2.2.1
  have hp9 := hpg.2.2.2.2.2.2.2.2
  have hdr0 : ¬ K.1 dr = 0 := by rw [hp4]; decide
  have hrl := hrv.1.lt hna.1.1
  have hskq := hsk q hqT hqL.1
  have htlq9 : tlE g q = rE (g 2 q) - rS (g 2 q) := rfl
  have hwfa : WfA (1, hd, sl, ([] : List Nat)) := hem.2.2.1
  have hhdp := hem.2.2.2.1
  have hloc := hem.2.1
  have hst0 : StW pb.1 pb.2.1 pb.2.2.1 pb.2.2.2 Ag Ag Q9 Q9 pd pd m9 dp lw cs cs as9 as9 hd hd sl sl gr gr (B 16) (B 17) (B 18) (B 19) ([] : List Nat) := StW.nil hem
  have hnd := hwp.1 q hqT hqL.1
  obtain ⟨hsd1, hsd2, hsd3, hsda, hsdb, hsdc⟩ := hskq.2.2.2.2.1 hkd q4 hc3
  obtain ⟨ob, hob⟩ : ∃ z : Option Nat, K.2.2.1 1 q = z := ⟨_, rfl⟩
  rw [hob] at hsd3 hsdb
  rcases hos0 : K.2.2.1 0 q with _ | z1
  · skip
    rw [hos0] at hsd3
    refine lv_aload_n hx hb dX0_loopStatement_0 rfl (lv_at hl 0 rfl) ?_
    rcases hos2 : K.2.2.1 2 q with _ | z3
    · skip
      rw [hos2] at hsd3
      have hsd4 : 0 + tO g ob + 0 + tlE g q4 + 3 ≤ tlE g q := hsd3
      refine c_get (v := .int (nI vr)) (C := RX0) (Tc := TX0) (N := 13) (ci := 0) hx hb hq pin_wsX00 hown hE hP hO 24 (sg_24 G h0 a _ _ _ _ _) rfl 5 (by decide) (hq _ pw_42) (fun _ h9 => h9) rfl dX0_loopStatement_1 ?_
      refine lv_istore_n (lv' := [(2, .int (nI vr)), (0, .ref (a 4)), (1, .ref q)]) hx hb dX0_loopStatement_4 rfl hl (by decide) rfl (fun ls hl => ?_)
      refine lv_aload_n hx hb dX0_loopStatement_5 rfl (lv_at hl 1 rfl) ?_
      refine c_get (v := .ref (a 2)) (C := RX0) (Tc := TX0) (N := 13) (ci := 0) hx hb hq pin_wsX00 hown hE hP hO 24 (sg_24 G h0 a _ _ _ _ _) rfl 1 (by decide) (hq _ pw_5) (fun _ h9 => h9) rfl dX0_loopStatement_6 ?_
      refine c_get (v := .int (nI hd)) (C := RX1) (Tc := TX1) (N := 13) (ci := 1) hx hb hq pin_wsX10 hown hE hP hO 13 (sg_13 G h0 a _ _ _ _ _) rfl 11 (by decide) (hq _ pw_54) (fun _ h9 => h9) rfl dX0_loopStatement_9 ?_
      refine lv_istore_n (lv' := [(3, .int (nI hd)), (2, .int (nI vr)), (0, .ref (a 4)), (1, .ref q)]) hx hb dX0_loopStatement_12 rfl hl (by decide) rfl (fun ls hl => ?_)
      refine lv_aload_n hx hb dX0_loopStatement_13 rfl (lv_at hl 3 rfl) ?_
      refine p_get (v := .null) (C := RX7) (Tc := TX7) (N := 11) (ci := 13) hx hb hq pin_wsX70 hown hE hP hO (by rw [hqT]; decide) (rep_1 hqT) rfl 6 (by decide) (hq _ pw_180) (fun _ h9 => h9) (congrArg (fun z => some (va_rf z)) hos0) dX0_loopStatement_14 ?_
      refine lv_ifnullN (tgt := 29) hx hb dX0_loopStatement_17 (by decide) ?_
      have hwfF : WfA (1, hd, sl, ([] : List Nat)) := hst0.1.2.2.1
      have hsnF := hst0.1.2.2.2.1
      have hstF : StW pb.1 pb.2.1 pb.2.2.1 pb.2.2.2 Ag Ag Q9 Q9 pd pd m9 dp lw cs cs as9 as9 hd hd sl sl gr gr (B 16) (B 17) (B 18) (B 19) ([] : List Nat) := StW.nil hst0.1
      have hbkF : BeL K K none := BeL.rfl
      have hbjF : BdE K K := BdE.rfl
      refine lv_aload_n hx hb dX0_loopStatement_29 rfl (lv_at hl 2 rfl) ?_
      refine c_get (v := .ref (a 2)) (C := RX0) (Tc := TX0) (N := 13) (ci := 0) hx hb hq pin_wsX00 hown hE hP hO 24 (sg_24 G h0 a _ _ _ _ _) rfl 1 (by decide) (hq _ pw_5) (fun _ h9 => h9) rfl dX0_loopStatement_30 ?_
      refine c_get (v := .int (nI cs)) (C := RX1) (Tc := TX1) (N := 13) (ci := 1) hx hb hq pin_wsX10 hown hE hP hO 13 (sg_13 G h0 a _ _ _ _ _) rfl 4 (by decide) (hq _ pw_75) (fun _ h9 => h9) rfl dX0_loopStatement_33 ?_
      refine lv_istore (lv' := [(4, .int (nI cs)), (3, .int (nI hd)), (2, .int (nI vr)), (0, .ref (a 4)), (1, .ref q)]) hx hb dX0_loopStatement_36 hl (by decide) rfl (fun ls hl => ?_)
      refine lv_aload_n hx hb dX0_loopStatement_38 rfl (lv_at hl 3 rfl) ?_
      refine c_get (v := .ref (a 2)) (C := RX0) (Tc := TX0) (N := 13) (ci := 0) hx hb hq pin_wsX00 hown hE hP hO 24 (sg_24 G h0 a _ _ _ _ _) rfl 1 (by decide) (hq _ pw_5) (fun _ h9 => h9) rfl dX0_loopStatement_39 ?_
      refine lv_iconst (v := 0) hx hb dX0_loopStatement_42 (by decide) ?_
      refine lv_iconst (v := 0) hx hb dX0_loopStatement_43 (by decide) ?_
      refine lv_iconst (v := 0) hx hb dX0_loopStatement_44 (by decide) ?_
      have hO : OKW G h0 a (upd (upd (upd (upd (upd (upd (upd (upd (upd (upd F 2 (nI sz)) 5 (nI cs)) 6 (nI rg)) 7 (nI hd)) 8 (nI dp)) 12 (nI vr)) 13 as9) 16 ls9) 5 (nI cs)) 7 (nI hd)) (updR (updR (updR R 2 (.ref pq)) 3 (.ref mq)) 4 (va_rf lp9)) Z B J K.1 (fun q99 x99 => x99 = rep G a K q99) w := hO.to rfl
      obtain ⟨_, qr4, hqr5⟩ := hO.2.1 13 _ (sg_13 G h0 a _ _ _ _ _)
      refine pc_V0 (G := G) (As := [.int 0, .int 0, .int 0]) (rest := []) hx hb hml hown hq hE hX pX0_al hP hD hS hA hl.1 (Y_emit l G h0 a (upd (upd (upd (upd (upd (upd (upd (upd F 2 (nI sz)) 5 (nI cs)) 6 (nI rg)) 7 (nI hd)) 8 (nI dp)) 12 (nI vr)) 13 as9) 16 ls9) (updR (updR (updR R 2 (.ref pq)) 3 (.ref mq)) 4 (va_rf lp9)) Z B J K.1 (fun q99 x99 => x99 = rep G a K q99) w 0 0 0 cs hd (by omega) hO) (gV pw_129 pw_130 pw_131 pw_70 pw_115) hV_X1_emit qr4 1 hqr5 rfl rfl rfl (Nat.le_of_ble_eq_true rfl) dX0_loopStatement_45 ⟨(by show 0 + 0 ≤ ((rE (g 2 q) - rS (g 2 q)) + 1); omega), (by show 0 + 0 ≤ (6 * (rE (g 2 q) - rS (g 2 q)) + 6); omega)⟩ ⟨(by show 2 + 1 ≤ (5 * n + 46); omega), (by show 8 + (4 + 11) + 60 ≤ (200 * n + 1120); omega)⟩ (fun v3 u1 H locs hw2 hP hD hS => ?_)
      obtain ⟨w, _⟩ := u1
      obtain ⟨hw2, hO⟩ := hw2
      obtain rfl : v3 = none := hw2
      have hO : OKP G h0 a (upd (upd (upd (upd (upd (upd (upd (upd F 2 (nI sz)) 5 (nI (cs + 1))) 6 (nI rg)) 7 (nI hd)) 8 (nI dp)) 12 (nI vr)) 13 as9) 16 ls9) (updR (updR (updR R 2 (.ref pq)) 3 (.ref mq)) 4 (va_rf lp9)) Z (updA (updA (updA (updA B 16 (upd ((B 16)) cs 0)) 17 (upd ((B 17)) cs 0)) 18 (upd ((B 18)) cs 0)) 19 (upd ((B 19)) cs (nI hd))) J K w := hO.to rfl
      refine W.widen (k := 0) (n := 0) (Nat.le_of_ble_eq_true rfl) (Nat.le_of_ble_eq_true rfl) ?_
      refine W.eq (g2 := F0 m 48 ls []) rfl ?_
      have hsw6 : ∀ x9 : Nat, x9 < cs → (upd ((B 16)) cs 0) x9 = B 16 x9 := fun x9 hx9 => (if_neg (by omega)).trans ((fun _ _ => rfl) x9 hx9)
      have hsw7 : ∀ x9 : Nat, x9 < cs → (upd ((B 17)) cs 0) x9 = B 17 x9 := fun x9 hx9 => (if_neg (by omega)).trans ((fun _ _ => rfl) x9 hx9)
      have hsw8 : ∀ x9 : Nat, x9 < cs → (upd ((B 18)) cs 0) x9 = B 18 x9 := fun x9 hx9 => (if_neg (by omega)).trans ((fun _ _ => rfl) x9 hx9)
      have hsw9 : ∀ x9 : Nat, x9 < cs → (upd ((B 19)) cs (nI hd)) x9 = B 19 x9 := fun x9 hx9 => (if_neg (by omega)).trans ((fun _ _ => rfl) x9 hx9)
      have hsx10 : ∀ x9 : Nat, x9 < cs → (upd ((B 16)) cs 0) x9 = (B 16) x9 := fun x9 hx9 => (if_neg (by omega)).trans ((fun _ _ => rfl) x9 hx9)
      have hsx11 : ∀ x9 : Nat, x9 < cs → (upd ((B 17)) cs 0) x9 = (B 17) x9 := fun x9 hx9 => (if_neg (by omega)).trans ((fun _ _ => rfl) x9 hx9)
      have hsx12 : ∀ x9 : Nat, x9 < cs → (upd ((B 18)) cs 0) x9 = (B 18) x9 := fun x9 hx9 => (if_neg (by omega)).trans ((fun _ _ => rfl) x9 hx9)
      have hsx13 : ∀ x9 : Nat, x9 < cs → (upd ((B 19)) cs (nI hd)) x9 = (B 19) x9 := fun x9 hx9 => (if_neg (by omega)).trans ((fun _ _ => rfl) x9 hx9)
      obtain ⟨Ag14, hst15, hag16⟩ : ∃ A5 : Nat → AS, StW pb.1 pb.2.1 pb.2.2.1 pb.2.2.2 Ag A5 Q9 Q9 pd pd m9 dp lw cs (cs + 1) as9 as9 hd hd sl sl gr gr (upd ((B 16)) cs 0) (upd ((B 17)) cs 0) (upd ((B 18)) cs 0) (upd ((B 19)) cs (nI hd)) ([] : List Nat) ∧ ∀ x9 : Nat, x9 ≤ cs → A5 x9 = Ag x9 := ⟨(upS Ag (cs + 1) (rcA as9, hd, sl, ([] : List Nat))), StW.fuel hstF, fun x9 hx9 => upS_ne (by omega)⟩
      have hng17 : Nng (upd ((B 18)) cs 0) := Nng.set hng (k := 0) (by omega)
      have hj18 : (upd ((B 16)) cs 0) cs = (nI 0) := if_pos rfl
      have hj19 : Ag14 cs = (rcA as9, hd, sl, ([] : List Nat)) := (hag16 cs (Nat.le_refl _)).trans hstF.1.1.2
      refine lv_aload_n hx hb dX0_loopStatement_48 rfl (lv_at hl 3 rfl) ?_
      refine lv_aload_n hx hb dX0_loopStatement_49 rfl (lv_at hl 4 rfl) ?_
      refine p_get (v := va_rf ob) (C := RX7) (Tc := TX7) (N := 11) (ci := 13) hx hb hq pin_wsX70 hown hE hP hO (by rw [hqT]; decide) (rep_1 hqT) rfl 7 (by decide) (hq _ pw_169) (fun _ h9 => h9) (congrArg (fun z => some (va_rf z)) hob) dX0_loopStatement_50 ?_
      have hO : OKP G h0 a (upd (upd (upd (upd (upd (upd (upd (upd (upd (upd (upd (upd (upd (upd (upd (upd (upd F 2 (nI sz)) 5 (nI cs)) 6 (nI rg)) 7 (nI hd)) 8 (nI dp)) 12 (nI vr)) 13 as9) 16 ls9) 5 (nI (cs + 1))) 2 (nI sz)) 5 (nI (cs + 1))) 6 (nI rg)) 7 (nI hd)) 8 (nI dp)) 12 (nI vr)) 13 as9) 16 ls9) (updR (updR (updR (updR (updR (updR R 2 (.ref pq)) 3 (.ref mq)) 4 (va_rf lp9)) 2 (.ref pq)) 3 (.ref mq)) 4 (va_rf lp9)) Z (updA (updA (updA (updA B 16 (upd ((B 16)) cs 0)) 17 (upd ((B 17)) cs 0)) 18 (upd ((B 18)) cs 0)) 19 (upd ((B 19)) cs (nI hd))) J K w := hO.to rfl
      obtain ⟨_, qr23, hqr24⟩ := hO.2.1 24 _ (sg_24 G h0 a _ _ _ _ _)
      refine pn_V0 (G := G) (As := [va_rf ob]) (rest := []) hx hb hml hown hq hE hX pX0_al hP hD hS hA hl.1 (Y_loopCondO l G h0 a (upd (upd (upd (upd (upd (upd (upd (upd (upd F 2 (nI sz)) 5 (nI cs)) 6 (nI rg)) 7 (nI hd)) 8 (nI dp)) 12 (nI vr)) 13 as9) 16 ls9) 5 (nI (cs + 1))) (updR (updR (updR R 2 (.ref pq)) 3 (.ref mq)) 4 (va_rf lp9)) Z (updA (updA (updA (updA B 16 (upd ((B 16)) cs 0)) 17 (upd ((B 17)) cs 0)) 18 (upd ((B 18)) cs 0)) 19 (upd ((B 19)) cs (nI hd))) J K w pq dr ml nd nm cp it s9 q mq (cs + 1) vr sz n ob (tO g ob) hd dp rg ls9 lp9 g rk pb Ag14 Q9 pd sl m9 lw c0 rt gr as9 (by omega) (BdE.wp BdE.rfl hwp) (BdE.pt BdE.rfl hwp hps) (BdE.rko BdE.rfl hrk) (by omega) (by omega) hng17 hmq hqT hqL hrt hrv (by omega) (by omega) (LpO.be BdE.rfl hlo) (EkA.be BdE.rfl ((BtR.up (BtR.up (BtR.up (BtR.up BtR.rfl (by omega)) (by omega)) (by omega)) (by omega)) 7 (by decide)) ((BtR.up (BtR.up (BtR.up (BtR.up BtR.rfl (by omega)) (by omega)) (by omega)) (by omega)) 11 (by decide)) hek) (OwC.be BdE.rfl hmq hdr0 hcO) (NaB.be BdE.rfl BeF.rfl hwp hps.2.1 hdr0 ((BtR.up (BtR.up (BtR.up (BtR.up BtR.rfl (by omega)) (by omega)) (by omega)) (by omega)) 11 (by decide)) hna) hen hao hst15.1 (KvO.of ((BdE.wp BdE.rfl hwp).1 q hqT hqL.1) (by decide) hob hqL.2) (fun x9 hx9 => ⟨hsdb x9 hx9, by rw [hx9]; exact Nat.le_refl _⟩) (by omega) hO hl0) (gV pw_318 pw_319 pw_320 pw_63 pw_271) hV_X0_loopCondition qr23 0 hqr24 rfl rfl rfl (Nat.le_of_ble_eq_true rfl) dX0_loopStatement_53 ⟨(by show 0 + 1 ≤ ((rE (g 2 q) - rS (g 2 q)) + 1); omega), (by show 0 + 6 ≤ (6 * (rE (g 2 q) - rS (g 2 q)) + 6); omega)⟩ ⟨(by show (5 * n + 35) + 1 ≤ (5 * n + 46); omega), (by show 8 + (2 + 11) + (200 * n + 640) ≤ (200 * n + 1120); omega)⟩ (fun v22 u20 H locs hw21 hP hD hS => ?_) (fun ux ce9 q9 H9 locs9 hux hP9 hD9 hS9 hce hcv hcl => pb_out ux (ThQ.up (Thx.same (Thx.same (Thx.same (Thx.same (Thx.same (Thx.same (Thx.same (Thx.same (Thx.b (Thx.b8 (Thx.b (Thx.b (Thx.f Thx.rfl (by omega)) (by omega) (by decide)) (by omega) (by decide)) hng17) (by omega) (by decide)) rfl) rfl) rfl) rfl) rfl) rfl) rfl) rfl) (show RhX (updR (updR (updR R 2 (.ref pq)) 3 (.ref mq)) 4 (va_rf lp9)) (updR (updR (updR (updR (updR (updR R 2 (.ref pq)) 3 (.ref mq)) 4 (va_rf lp9)) 2 (.ref pq)) 3 (.ref mq)) 4 (va_rf lp9)) from fun k9 hk9 => by unfold updR; simp only [show ¬ k9 = 1 by omega, show ¬ k9 = 2 by omega, show ¬ k9 = 3 by omega, show ¬ k9 = 4 by omega, if_false]) hux) hnt hlocks hce hcv hcl hP9 hD9 hS9 (by show 0 + 1 ≤ ((rE (g 2 q) - rS (g 2 q)) + 1); omega) (by show 0 + 6 ≤ (6 * (rE (g 2 q) - rS (g 2 q)) + 6); omega))
      obtain ⟨w, K25, B26, cs27, as28, wt29, wf30, x31, Ag32, pd33, ex34⟩ := u20
      obtain ⟨hw21, h35, h36, h37, h38, h39, h40, h41, h42, h43, h44, h45, h46, hO⟩ := hw21
      have h35 : SmW (updA (updA (updA (updA B 16 (upd ((B 16)) cs 0)) 17 (upd ((B 17)) cs 0)) 18 (upd ((B 18)) cs 0)) 19 (upd ((B 19)) cs (nI hd))) B26 (cs + 1) := h35
      have h36 : BdE K K25 := h36
      have h37 : BeF K K25 := h37
      have h38 : BeL K K25 none := h38
      have h39 : Bth (updA (updA (updA (updA B 16 (upd ((B 16)) cs 0)) 17 (upd ((B 17)) cs 0)) 18 (upd ((B 18)) cs 0)) 19 (upd ((B 19)) cs (nI hd))) B26 := h39
      have h40 : BeR (updA (updA (updA (updA B 16 (upd ((B 16)) cs 0)) 17 (upd ((B 17)) cs 0)) 18 (upd ((B 18)) cs 0)) 19 (upd ((B 19)) cs (nI hd))) B26 := h40
      have h41 : (cs + 1) ≤ cs27 ∧ cs27 ≤ (cs + 1) + 2 * (tO g ob) + 1 := h41
      have h42 : AsO as28 ∧ AsO wt29 ∧ AsO wf30 := h42
      have h43 : ¬ wf30 = -1 → ¬ as9 = -1 := h43
      have h44 : StW pb.1 pb.2.1 pb.2.2.1 pb.2.2.2 Ag14 Ag32 Q9 Q9 pd pd33 m9 dp lw (cs + 1) cs27 as9 wt29 hd hd sl sl gr gr (B26 16) (B26 17) (B26 18) (B26 19) [] := h44
      have h45 : ExJ (B26 16) (B26 17) Ag32 x31 ex34 lw (cs + 1) cs27 hd sl wt29 wf30 := h45
      have h46 : ∀ z : Nat, pd33 z ↔ pd z ∨ z ∈ ex34 := h46
      obtain rfl : v22 = some (.int x31) := hw21
      have hf47 : K25.1 pq = 7 := (BdE.T h36 hp1 (by decide))
      have hf48 : K25.2.2.1 18 pq = some (a 1) := (BdE.C h36 (by rw [hp1]; decide) 18).trans hp2
      have hf49 : K25.2.2.1 14 pq = some dr := (BdE.C h36 (by rw [hp1]; decide) 14).trans hp3
      have hf50 : K25.1 dr = 8 := (BdE.T h36 hp4 (by decide))
      have hf51 : K25.2.2.1 15 pq = some ml := (BdE.C h36 (by rw [hp1]; decide) 15).trans hp5
      have hf52 : K25.1 ml = 5 := (BdE.T h36 hp6 (by decide))
      have hf53 : K25.2.1 24 pq = (nI nd) := (BdE.I h36 (by rw [hp1]; decide) (by decide) (by decide)).trans hp8
      have hf54 : K25.1 q = 1 := (BdE.T h36 hqT (by decide))
      have hf55 : K25.1 mq = 3 := (BdE.T h36 hmq (by decide))
      have hf56 : K25.2.1 10 mq = (nI rt) := (BdE.I h36 (by rw [hmq]; decide) (by decide) (by decide)).trans hrt
      have hf57 : K25.2.2.1 3 q = some q4 := (BdE.C h36 (by rw [hqT]; decide) 3).trans hc3
      have hf58 : K25.1 q4 = 1 := (BdE.T h36 ht3 (by decide))
      have hf59 : K25.2.2.1 1 q = ob := (BdE.C h36 (by rw [hqT]; decide) 1).trans hob
      have hf60 : K25.2.2.1 0 q = none := (BdE.C h36 (by rw [hqT]; decide) 0).trans hos0
      have hf61 : K25.2.2.1 2 q = none := (BdE.C h36 (by rw [hqT]; decide) 2).trans hos2
      have hO : OKP G h0 a (upd (upd (upd (upd (upd (upd (upd (upd (upd (upd F 2 (nI sz)) 5 (nI cs27)) 6 (nI rg)) 7 (nI hd)) 8 (nI dp)) 12 (nI vr)) 13 as28) 14 wt29) 15 wf30) 16 ls9) (updR (updR (updR R 2 (.ref pq)) 3 (.ref mq)) 4 (va_rf lp9)) Z B26 J K25 w := hO.to rfl
      refine W.widen (k := 0) (n := 0) (by show 0 + 0 ≤ 0; omega) (by show 0 + 0 ≤ 0; omega) ?_
      refine W.eq (g2 := F0 m 56 ls [.int x31]) rfl ?_
      have hbe62 := BdE.trans BdE.rfl h36
      have hbb63 : Bth B B26 := Bth.trans (show Thx (upd (upd (upd (upd (upd (upd (upd (upd F 2 (nI sz)) 5 (nI cs)) 6 (nI rg)) 7 (nI hd)) 8 (nI dp)) 12 (nI vr)) 13 as9) 16 ls9) (upd (upd (upd (upd (upd (upd (upd (upd (upd F 2 (nI sz)) 5 (nI cs)) 6 (nI rg)) 7 (nI hd)) 8 (nI dp)) 12 (nI vr)) 13 as9) 16 ls9) 5 (nI (cs + 1))) B (updA (updA (updA (updA B 16 (upd ((B 16)) cs 0)) 17 (upd ((B 17)) cs 0)) 18 (upd ((B 18)) cs 0)) 19 (upd ((B 19)) cs (nI hd))) from (Thx.b (Thx.b8 (Thx.b (Thx.b (Thx.f Thx.rfl (by omega)) (by omega) (by decide)) (by omega) (by decide)) hng17) (by omega) (by decide))).2 h39
      have hng64 : Nng (B26 18) := h39.2 hng17
      have hsw65 : ∀ x9 : Nat, x9 < cs → (B26 16) x9 = B 16 x9 := fun x9 hx9 => ((h35 x9 (by omega)).1).trans (hsw6 x9 hx9)
      have hsw66 : ∀ x9 : Nat, x9 < cs → (B26 17) x9 = B 17 x9 := fun x9 hx9 => ((h35 x9 (by omega)).2.1).trans (hsw7 x9 hx9)
      have hsw67 : ∀ x9 : Nat, x9 < cs → (B26 18) x9 = B 18 x9 := fun x9 hx9 => ((h35 x9 (by omega)).2.2.1).trans (hsw8 x9 hx9)
      have hsw68 : ∀ x9 : Nat, x9 < cs → (B26 19) x9 = B 19 x9 := fun x9 hx9 => ((h35 x9 (by omega)).2.2.2).trans (hsw9 x9 hx9)
      have hsx69 : ∀ x9 : Nat, x9 < cs → (B26 16) x9 = (B 16) x9 := fun x9 hx9 => ((h35 x9 (by omega)).1).trans (hsx10 x9 hx9)
      have hsx70 : ∀ x9 : Nat, x9 < cs → (B26 17) x9 = (B 17) x9 := fun x9 hx9 => ((h35 x9 (by omega)).2.1).trans (hsx11 x9 hx9)
      have hsx71 : ∀ x9 : Nat, x9 < cs → (B26 18) x9 = (B 18) x9 := fun x9 hx9 => ((h35 x9 (by omega)).2.2.1).trans (hsx12 x9 hx9)
      have hsx72 : ∀ x9 : Nat, x9 < cs → (B26 19) x9 = (B 19) x9 := fun x9 hx9 => ((h35 x9 (by omega)).2.2.2).trans (hsx13 x9 hx9)
      have hbf73 := BeF.trans BeF.rfl h37 BdE.rfl
      have hbl75 : BeL K K25 lp9 := BeL.trans BeL.rfl (BeL.any h38) BdE.rfl
      have hbr74 : BtR B B26 := BtR.trans (BtR.up (BtR.up (BtR.up (BtR.up BtR.rfl (by omega)) (by omega)) (by omega)) (by omega)) (BeR.bt h40)
      have hvs76 : VrS B B26 vr := fun i9 hi9 => ⟨(congrFun (h40 26 (by decide)) i9).trans (VrS.rfl i9 hi9).1, (congrFun (h40 27 (by decide)) i9).trans (VrS.rfl i9 hi9).2⟩
      have hvF77 : VrS B B26 vr := fun i9 hi9 => ⟨(congrFun (h40 26 (by decide)) i9).trans (VrS.rfl i9 hi9).1, (congrFun (h40 27 (by decide)) i9).trans (VrS.rfl i9 hi9).2⟩
      have hen78 : EnV (B26 26) (B26 27) nd vr hd c0 sl := EnV.of (h40 26 (by decide)) (h40 27 (by decide)) hen
      have hrq79 : RgQx B26 Q9 gr nd := RgQx.ber hrq (h40 20 (by decide)) (h40 21 (by decide)) (h40 22 (by decide)) (h40 23 (by decide)) (h40 24 (by decide))
      have hst80 : StW pb.1 pb.2.1 pb.2.2.1 pb.2.2.2 Ag Ag32 Q9 Q9 pd pd33 m9 dp lw cs cs27 as9 wt29 hd hd sl sl gr gr (B26 16) (B26 17) (B26 18) (B26 19) ([] : List Nat) := StW.seq hst15 (Nat.le_refl _) (fun x9 hx9 => ⟨(h35 x9 hx9).1, (h35 x9 hx9).2.1⟩) h44
      have hj81 : (B26 16) cs = (nI 0) := ((h35 cs (by omega)).1).trans hj18
      have hj82 : Ag32 cs = (rcA as9, hd, sl, ([] : List Nat)) := (h44.2.2.1 cs (by omega)).trans hj19
      have hbk83 : BeL K K25 none := BeL.trans hbkF (BeL.any h38) hbjF
      have hbj84 : BdE K K25 := BdE.trans hbjF h36
      have hlr85 : LpR K25 lp9 rL := LpR.same hlr (fun lq9 e9 f9 _ _ => h38 lq9 (LpO.be BdE.rfl hlo lq9 e9) (fun z => by cases z) f9)
      refine lv_istore (lv' := [(5, .int x31), (4, .int (nI cs)), (3, .int (nI hd)), (2, .int (nI vr)), (0, .ref (a 4)), (1, .ref q)]) hx hb dX0_loopStatement_56 hl (by decide) rfl (fun ls hl => ?_)
      refine lv_aload_n hx hb dX0_loopStatement_58 rfl (lv_at hl 4 rfl) ?_
      refine c_get (v := .int wf30) (C := RX0) (Tc := TX0) (N := 13) (ci := 0) hx hb hq pin_wsX00 hown hE hP hO 24 (sg_24 G h0 a _ _ _ _ _) rfl 10 (by decide) (hq _ pw_157) (fun _ h9 => h9) rfl dX0_loopStatement_59 ?_
      refine lv_istore (lv' := [(6, .int wf30), (5, .int x31), (4, .int (nI cs)), (3, .int (nI hd)), (2, .int (nI vr)), (0, .ref (a 4)), (1, .ref q)]) hx hb dX0_loopStatement_62 hl (by decide) rfl (fun ls hl => ?_)
      refine lv_aload_n hx hb dX0_loopStatement_64 rfl (lv_at hl 5 rfl) ?_
      refine lv_aload_n hx hb dX0_loopStatement_65 rfl (lv_at hl 5 rfl) ?_
      refine c_get (v := .int wt29) (C := RX0) (Tc := TX0) (N := 13) (ci := 0) hx hb hq pin_wsX00 hown hE hP hO 24 (sg_24 G h0 a _ _ _ _ _) rfl 9 (by decide) (hq _ pw_156) (fun _ h9 => h9) rfl dX0_loopStatement_66 ?_
      refine c_put (v := .int wt29) (ty := .int) (C := RX0) (Tc := TX0) (N := 13) (ci := 0) hx hb hq pin_wsX00 tyX0 tyX0_ok nmX0 hown hE hP hD hS hO 24 (sg_24 G h0 a _ _ _ _ _) rfl 8 (by decide) (hq _ pw_55) (fun _ h9 => h9) rfl (by decide +kernel) rfl rfl (Nat.le_of_ble_eq_true rfl) (sf_13 G h0 a _ _ _ _ _ wt29) dX0_loopStatement_69 (fun H locs w hP hD hS hO => ?_)
      refine lv_aload_n hx hb dX0_loopStatement_72 rfl (lv_at hl 5 rfl) ?_
      refine p_new (s9 := 9) (C := RX4) (T := TX4) (N := 6) (ci := 11) (fs := [.null, .int 0, .int 0, .int 0, .int 0, .int 0]) hx hb hq pin_wsX40 tyX4 tyX4_ok hown (hq _ pw_313) (hq _ pw_314) (hq _ pw_315) hE hP hD hS hA hO rfl nw_X4 (by decide) (fun q => by rw [rep_9 (show (kN K25 q 9 0).1 q = 9 from if_pos rfl)]; unfold fsLoop kN; simp only [if_true]; rfl) (by show 0 + 1 ≤ ((rE (g 2 q) - rS (g 2 q)) + 1); omega) (by show 0 + 6 ≤ (6 * (rE (g 2 q) - rS (g 2 q)) + 6); omega) dX0_loopStatement_73 (fun q86 H w hq87 hP hD hS hO => ?_)
      have hf88 : (kN K25 q86 9 0).1 pq = 7 := (if_neg (fun z => by have z2 := hf47; rw [z, hq87] at z2; exact absurd z2 (by decide))).trans hf47
      have hf89 : (kN K25 q86 9 0).2.2.1 18 pq = some (a 1) := (if_neg (fun z => by have z2 := hf47; rw [z, hq87] at z2; exact absurd z2 (by decide))).trans hf48
      have hf90 : (kN K25 q86 9 0).2.2.1 14 pq = some dr := (if_neg (fun z => by have z2 := hf47; rw [z, hq87] at z2; exact absurd z2 (by decide))).trans hf49
      have hf91 : (kN K25 q86 9 0).1 dr = 8 := (if_neg (fun z => by have z2 := hf50; rw [z, hq87] at z2; exact absurd z2 (by decide))).trans hf50
      have hf92 : (kN K25 q86 9 0).2.2.1 15 pq = some ml := (if_neg (fun z => by have z2 := hf47; rw [z, hq87] at z2; exact absurd z2 (by decide))).trans hf51
      have hf93 : (kN K25 q86 9 0).1 ml = 5 := (if_neg (fun z => by have z2 := hf52; rw [z, hq87] at z2; exact absurd z2 (by decide))).trans hf52
      have hf94 : (kN K25 q86 9 0).2.1 24 pq = (nI nd) := (if_neg (fun z => by have z2 := hf47; rw [z, hq87] at z2; exact absurd z2 (by decide))).trans hf53
      have hf95 : (kN K25 q86 9 0).1 q = 1 := (if_neg (fun z => by have z2 := hf54; rw [z, hq87] at z2; exact absurd z2 (by decide))).trans hf54
      have hf96 : (kN K25 q86 9 0).1 mq = 3 := (if_neg (fun z => by have z2 := hf55; rw [z, hq87] at z2; exact absurd z2 (by decide))).trans hf55
      have hf97 : (kN K25 q86 9 0).2.1 10 mq = (nI rt) := (if_neg (fun z => by have z2 := hf55; rw [z, hq87] at z2; exact absurd z2 (by decide))).trans hf56
      have hf98 : (kN K25 q86 9 0).2.2.1 3 q = some q4 := (if_neg (fun z => by have z2 := hf54; rw [z, hq87] at z2; exact absurd z2 (by decide))).trans hf57
      have hf99 : (kN K25 q86 9 0).1 q4 = 1 := (if_neg (fun z => by have z2 := hf58; rw [z, hq87] at z2; exact absurd z2 (by decide))).trans hf58
      have hf100 : (kN K25 q86 9 0).2.2.1 1 q = ob := (if_neg (fun z => by have z2 := hf54; rw [z, hq87] at z2; exact absurd z2 (by decide))).trans hf59
      have hf101 : (kN K25 q86 9 0).2.2.1 0 q = none := (if_neg (fun z => by have z2 := hf54; rw [z, hq87] at z2; exact absurd z2 (by decide))).trans hf60
      have hf102 : (kN K25 q86 9 0).2.2.1 2 q = none := (if_neg (fun z => by have z2 := hf54; rw [z, hq87] at z2; exact absurd z2 (by decide))).trans hf61
      have hf103 : (kN K25 q86 9 0).1 q86 = 9 := if_pos rfl
      refine W.widen (k := 1) (n := 6) (by show 0 + 1 ≤ 1; omega) (by show 0 + 6 ≤ 6; omega) ?_
      refine lv_dup hx hb dX0_loopStatement_76 rfl ?_
      refine lv_aload_n hx hb dX0_loopStatement_77 rfl (lv_at hl 5 rfl) ?_
      refine c_get (v := va_rf lp9) (C := RX0) (Tc := TX0) (N := 13) (ci := 0) hx hb hq pin_wsX00 hown hE hP hO 24 (sg_24 G h0 a _ _ _ _ _) rfl 11 (by decide) (hq _ pw_73) (fun _ h9 => h9) rfl dX0_loopStatement_78 ?_
      refine lv_aload_n hx hb dX0_loopStatement_81 rfl (lv_at hl 5 rfl) ?_
      refine c_get (v := .int ls9) (C := RX0) (Tc := TX0) (N := 13) (ci := 0) hx hb hq pin_wsX00 hown hE hP hO 24 (sg_24 G h0 a _ _ _ _ _) rfl 12 (by decide) (hq _ pw_74) (fun _ h9 => h9) rfl dX0_loopStatement_82 ?_
      have hO : OKP G h0 a (upd (upd (upd (upd (upd (upd (upd (upd (upd (upd F 2 (nI sz)) 5 (nI cs27)) 6 (nI rg)) 7 (nI hd)) 8 (nI dp)) 12 (nI vr)) 13 wt29) 14 wt29) 15 wf30) 16 ls9) (updR (updR (updR R 2 (.ref pq)) 3 (.ref mq)) 4 (va_rf lp9)) Z B26 J (kN K25 q86 9 0) w := hO.to rfl
      obtain ⟨qr107, hqr108⟩ := p_recv hO (by rw [hf103]; decide) (rep_9 hf103)
      refine pc_I0 (G := G) (As := [va_rf lp9, .int ls9]) (rest := [.ref q86, .ref (a 4)]) hx hb hml hown hq hE hX pX0_al hP hD hS hA hl.1 (O_initV l G h0 a (upd (upd (upd (upd (upd (upd (upd (upd (upd (upd F 2 (nI sz)) 5 (nI cs27)) 6 (nI rg)) 7 (nI hd)) 8 (nI dp)) 12 (nI vr)) 13 wt29) 14 wt29) 15 wf30) 16 ls9) (updR (updR (updR R 2 (.ref pq)) 3 (.ref mq)) 4 (va_rf lp9)) Z B26 J (kN K25 q86 9 0) w q86 lp9 ls9 hf103 hO) pw_321 pw_322 pw_315 pw_272 rfl hS_X4_init rfl (Nat.le_of_ble_eq_true rfl) dX0_loopStatement_85 ⟨(by show 1 + 0 ≤ ((rE (g 2 q) - rS (g 2 q)) + 1); omega), (by show 6 + 0 ≤ (6 * (rE (g 2 q) - rS (g 2 q)) + 6); omega)⟩ ⟨(by show 2 + 1 ≤ (5 * n + 46); omega), (by show 8 + (3 + 11) + 60 ≤ (200 * n + 1120); omega)⟩ (fun v106 u104 H locs hw105 hP hD hS => ?_)
      obtain ⟨w, _⟩ := u104
      obtain ⟨hw105, hO⟩ := hw105
      obtain rfl : v106 = none := hw105
      have hf109 : (kI (kI (kI (kI (kI (kC (kN K25 q86 9 0) 16 q86 lp9) 26 q86 ls9) 27 q86 (-1)) 28 q86 (-1)) 29 q86 (-1)) 30 q86 (-1)).1 pq = 7 := hf88
      have hf110 : (kI (kI (kI (kI (kI (kC (kN K25 q86 9 0) 16 q86 lp9) 26 q86 ls9) 27 q86 (-1)) 28 q86 (-1)) 29 q86 (-1)) 30 q86 (-1)).1 dr = 8 := hf91
      have hf111 : (kI (kI (kI (kI (kI (kC (kN K25 q86 9 0) 16 q86 lp9) 26 q86 ls9) 27 q86 (-1)) 28 q86 (-1)) 29 q86 (-1)) 30 q86 (-1)).1 ml = 5 := hf93
      have hf112 : (kI (kI (kI (kI (kI (kC (kN K25 q86 9 0) 16 q86 lp9) 26 q86 ls9) 27 q86 (-1)) 28 q86 (-1)) 29 q86 (-1)) 30 q86 (-1)).1 q = 1 := hf95
      have hf113 : (kI (kI (kI (kI (kI (kC (kN K25 q86 9 0) 16 q86 lp9) 26 q86 ls9) 27 q86 (-1)) 28 q86 (-1)) 29 q86 (-1)) 30 q86 (-1)).1 mq = 3 := hf96
      have hf114 : (kI (kI (kI (kI (kI (kC (kN K25 q86 9 0) 16 q86 lp9) 26 q86 ls9) 27 q86 (-1)) 28 q86 (-1)) 29 q86 (-1)) 30 q86 (-1)).1 q4 = 1 := hf99
      have hf115 : (kI (kI (kI (kI (kI (kC (kN K25 q86 9 0) 16 q86 lp9) 26 q86 ls9) 27 q86 (-1)) 28 q86 (-1)) 29 q86 (-1)) 30 q86 (-1)).1 q86 = 9 := hf103
      have hO : OKP G h0 a (upd (upd (upd (upd (upd (upd (upd (upd (upd (upd F 2 (nI sz)) 5 (nI cs27)) 6 (nI rg)) 7 (nI hd)) 8 (nI dp)) 12 (nI vr)) 13 wt29) 14 wt29) 15 wf30) 16 ls9) (updR (updR (updR R 2 (.ref pq)) 3 (.ref mq)) 4 (va_rf lp9)) Z B26 J (kI (kI (kI (kI (kI (kC (kN K25 q86 9 0) 16 q86 lp9) 26 q86 ls9) 27 q86 (-1)) 28 q86 (-1)) 29 q86 (-1)) 30 q86 (-1)) w := hO.to rfl
      refine W.widen (k := 1) (n := 6) (by show 1 + 0 ≤ 1; omega) (by show 6 + 0 ≤ 6; omega) ?_
      refine W.eq (g2 := F0 m 88 ls [.ref q86, .ref (a 4)]) rfl ?_
      obtain ⟨K116, hK117⟩ : ∃ z : PK, z = (kI (kI (kI (kI (kI (kC (kN K25 q86 9 0) 16 q86 lp9) 26 q86 ls9) 27 q86 (-1)) 28 q86 (-1)) 29 q86 (-1)) 30 q86 (-1)) := ⟨_, rfl⟩
      rw [← hK117] at hO
      have hbx118 : BdE K25 K116 := by rw [hK117]; exact BdE.loop hq87
      have hbe119 := BdE.trans hbe62 hbx118
      have hf120 : K116.1 pq = 7 := (BdE.T hbx118 hf47 (by decide))
      have hf121 : K116.2.2.1 18 pq = some (a 1) := (BdE.C hbx118 (by rw [hf47]; decide) 18).trans hf48
      have hf122 : K116.2.2.1 14 pq = some dr := (BdE.C hbx118 (by rw [hf47]; decide) 14).trans hf49
      have hf123 : K116.1 dr = 8 := (BdE.T hbx118 hf50 (by decide))
      have hf124 : K116.2.2.1 15 pq = some ml := (BdE.C hbx118 (by rw [hf47]; decide) 15).trans hf51
      have hf125 : K116.1 ml = 5 := (BdE.T hbx118 hf52 (by decide))
      have hf126 : K116.2.1 24 pq = (nI nd) := (BdE.I hbx118 (by rw [hf47]; decide) (by decide) (by decide)).trans hf53
      have hf127 : K116.1 q = 1 := (BdE.T hbx118 hf54 (by decide))
      have hf128 : K116.1 mq = 3 := (BdE.T hbx118 hf55 (by decide))
      have hf129 : K116.2.1 10 mq = (nI rt) := (BdE.I hbx118 (by rw [hf55]; decide) (by decide) (by decide)).trans hf56
      have hf130 : K116.2.2.1 3 q = some q4 := (BdE.C hbx118 (by rw [hf54]; decide) 3).trans hf57
      have hf131 : K116.1 q4 = 1 := (BdE.T hbx118 hf58 (by decide))
      have hf132 : K116.2.2.1 1 q = ob := (BdE.C hbx118 (by rw [hf54]; decide) 1).trans hf59
      have hf133 : K116.2.2.1 0 q = none := (BdE.C hbx118 (by rw [hf54]; decide) 0).trans hf60
      have hf134 : K116.2.2.1 2 q = none := (BdE.C hbx118 (by rw [hf54]; decide) 2).trans hf61
      have hf135 : K116.1 q86 = 9 := by rw [hK117]; exact if_pos rfl
      have hf136 : K116.2.2.1 16 q86 = lp9 := by rw [hK117]; exact kC_eq
      have hbf137 : BeF K25 K116 := by rw [hK117]; exact BeF.loop hq87
      have hbl138 : BeL K25 K116 none := by rw [hK117]; exact BeL.loop hq87
      have hbf139 := BeF.trans hbf73 hbf137 hbe62
      have hbl140 : BeL K K116 lp9 := BeL.trans hbl75 (BeL.any hbl138) hbe62
      have hlf141 : K116.2.1 27 q86 = -1 := by rw [hK117]; exact loop_27
      have hlf142 : K116.2.1 28 q86 = -1 := by rw [hK117]; exact loop_28
      have hlf143 : K116.2.1 29 q86 = -1 := by rw [hK117]; exact loop_29
      have hlf144 : K116.2.1 30 q86 = -1 := by rw [hK117]; exact loop_30
      have hbk145 : BeL K K116 none := BeL.trans hbk83 (BeL.any hbl138) hbj84
      have hbj146 : BdE K K116 := BdE.trans hbj84 hbx118
      have hlr147 : LpR K116 lp9 rL := LpR.same hlr85 (fun lq9 e9 f9 _ _ => hbl138 lq9 (LpO.be hbe62 hlo lq9 e9) (fun z => by cases z) f9)
      have hbk148 : BeL K K116 (some q86) := BeL.any hbk145
      have hinn : K.1 q86 = 0 := BdE.fr hbe62 hq87
      refine c_put (v := .ref q86) (ty := (.object "JinjaTongue$Loop")) (C := RX0) (Tc := TX0) (N := 13) (ci := 0) hx hb hq pin_wsX00 tyX0 tyX0_ok nmX0 hown hE hP hD hS hO 24 (sg_24 G h0 a _ _ _ _ _) rfl 11 (by decide) (hq _ pw_73) (fun _ h9 => h9) rfl (by decide +kernel) rfl rfl (Nat.le_of_ble_eq_true rfl) (sr_4 G h0 a _ _ _ _ _ (.ref q86)) dX0_loopStatement_88 (fun H locs w hP hD hS hO => ?_)
      refine lv_aload_n hx hb dX0_loopStatement_91 rfl (lv_at hl 5 rfl) ?_
      refine lv_aload_n hx hb dX0_loopStatement_92 rfl (lv_at hl 6 rfl) ?_
      refine p_get (v := .ref q4) (C := RX7) (Tc := TX7) (N := 11) (ci := 13) hx hb hq pin_wsX70 hown hE hP hO (by rw [hf127]; decide) (rep_1 hf127) rfl 9 (by decide) (hq _ pw_316) (fun _ h9 => h9) (congrArg (fun z => some (va_rf z)) hf130) dX0_loopStatement_93 ?_
      refine lv_iconst (v := 1) hx hb dX0_loopStatement_96 (by decide) ?_
      have htl149 : tlE g q4 = rE (g 2 q4) - rS (g 2 q4) := rfl
      have hO : OKP G h0 a (upd (upd (upd (upd (upd (upd (upd (upd (upd (upd (upd (upd (upd (upd (upd (upd (upd (upd (upd (upd F 2 (nI sz)) 5 (nI cs)) 6 (nI rg)) 7 (nI hd)) 8 (nI dp)) 12 (nI vr)) 13 as9) 16 ls9) 5 (nI cs27)) 13 wt29) 14 wt29) 15 wf30) 2 (nI sz)) 5 (nI cs27)) 6 (nI rg)) 7 (nI hd)) 8 (nI dp)) 12 (nI vr)) 13 wt29) 16 ls9) (updR (updR (updR (updR (updR (updR R 2 (.ref pq)) 3 (.ref mq)) 4 (.ref q86)) 2 (.ref pq)) 3 (.ref mq)) 4 (va_rf (some q86))) Z B26 J K116 w := hO.to rfl
      obtain ⟨_, qr153, hqr154⟩ := hO.2.1 24 _ (sg_24 G h0 a _ _ _ _ _)
      refine pn_V0 (G := G) (As := [.ref q4, .int (nI 1)]) (rest := []) hx hb hml hown hq hE hX pX0_al hP hD hS hA hl.1 ((ist (n - 1) (by omega)) h0 a (upd (upd (upd (upd (upd (upd (upd (upd (upd (upd (upd (upd F 2 (nI sz)) 5 (nI cs)) 6 (nI rg)) 7 (nI hd)) 8 (nI dp)) 12 (nI vr)) 13 as9) 16 ls9) 5 (nI cs27)) 13 wt29) 14 wt29) 15 wf30) (updR (updR (updR R 2 (.ref pq)) 3 (.ref mq)) 4 (.ref q86)) Z B26 J K116 w pq dr ml nd nm cp it s9 q4 mq cs27 vr sz 1 hd dp rg ls9 (some q86) g rk pb Ag32 Q9 pd33 sl m9 lw c0 rt gr wt29 hd sl ([] : List Nat) ([] : List Nat) (¬ as9 = -1) (by omega) (BdE.wp hbe119 hwp) (BdE.pt hbe119 hwp hps) (BdE.rko hbe119 hrk) (by omega) (by omega) hng64 hf128 hf131 ⟨hv3.1, (by have z9 := hv3; omega)⟩ hf129 hrv (by omega) (by omega) (by omega) (fun x9 h9 => by cases h9; exact hf135) (EkA.be hbe119 (hbr74 7 (by decide)) (hbr74 11 (by decide)) hek) (OwC.be hbe119 hmq hdr0 hcO) (NaB.be hbe119 hbf139 hwp hps.2.1 hdr0 (hbr74 11 (by decide)) hna) hen78 h42.2.1 hst80.1 (by omega) (by omega) (by omega) (SkA.be hbe119 (hbr74 11 (by decide)) hsk) (LpS.new hlf141 hlf142 hlf143 hlf144 (fun z9 h9 => by rcases (h46 z9).mp h9 with y9 | y9; (have v9 := hlp.1 z9 y9; omega); (have v9 := (ExJ.rng h45 z9 y9).2; omega))) hrq79 hst80.2.2.2.2.2.1 (LpR.new hlf143 hlf144) (by omega) hO hl0) (gV pw_300 pw_301 pw_302 pw_63 pw_323) hV_X0_statement qr153 0 hqr154 rfl rfl rfl (Nat.le_of_ble_eq_true rfl) dX0_loopStatement_97 ⟨(by show 1 + ((rE (g 2 q4) - rS (g 2 q4)) + 1) ≤ ((rE (g 2 q) - rS (g 2 q)) + 1); omega), (by show 6 + (6 * (rE (g 2 q4) - rS (g 2 q4)) + 6) ≤ (6 * (rE (g 2 q) - rS (g 2 q)) + 6); omega)⟩ ⟨(by show (5 * (n - 1) + 50) + 1 ≤ (5 * n + 46); omega), (by show 8 + (3 + 11) + (200 * (n - 1) + 1200) ≤ (200 * n + 1120); omega)⟩ (fun v152 u150 H locs hw151 hP hD hS => ?_) (fun ux ce9 q9 H9 locs9 hux hP9 hD9 hS9 hce hcv hcl => pb_out ux (ThQ.up (Thx.same (Thx.same (Thx.same (Thx.same (Thx.same (Thx.same (Thx.same (Thx.same (Thx.f (Thx.f (Thx.f (Thx.f (Bth.thx hbb63) (by omega)) (by omega)) (by omega)) (by omega)) rfl) rfl) rfl) rfl) rfl) rfl) rfl) rfl) (show RhX (updR (updR (updR R 2 (.ref pq)) 3 (.ref mq)) 4 (va_rf lp9)) (updR (updR (updR (updR (updR (updR R 2 (.ref pq)) 3 (.ref mq)) 4 (.ref q86)) 2 (.ref pq)) 3 (.ref mq)) 4 (va_rf (some q86))) from fun k9 hk9 => by unfold updR; simp only [show ¬ k9 = 1 by omega, show ¬ k9 = 2 by omega, show ¬ k9 = 3 by omega, show ¬ k9 = 4 by omega, if_false]) hux) hnt hlocks hce hcv hcl hP9 hD9 hS9 (by show 1 + ((rE (g 2 q4) - rS (g 2 q4)) + 1) ≤ ((rE (g 2 q) - rS (g 2 q)) + 1); omega) (by show 6 + (6 * (rE (g 2 q4) - rS (g 2 q4)) + 6) ≤ (6 * (rE (g 2 q) - rS (g 2 q)) + 6); omega))
      obtain ⟨w, K155, B156, cs157, as158, wt159, wf160, vr161, hd162, dp163, Ag164, sl165, rg166, gr167, ls168, Q169, pd170, xb171, xc172⟩ := u150
      obtain ⟨hw151, h173, h174, h175, h176, h177, h178, h179, h180, h181, h182, h183, h184, h185, h186, h187, h188, h189, h190, h191, h192, hO⟩ := hw151
      have h173 : SmW B26 B156 cs27 := h173
      have h174 : BdE K116 K155 := h174
      have h175 : BeF K116 K155 := h175
      have h176 : BeL K116 K155 (some q86) := h176
      have h177 : Bth B26 B156 := h177
      have h178 : BtR B26 B156 := h178
      have h179 : cs27 ≤ cs157 ∧ cs157 + 0 ≤ cs27 + 2 * tlE g q4 := h179
      have h180 : dp ≤ dp163 ∧ dp163 ≤ 71 := h180
      have h181 : vr ≤ vr161 ∧ vr161 ≤ 30 ∧ hd162 + vr = hd + vr161 := h181
      have h182 : AsO as158 := h182
      have h183 : VrS B26 B156 vr := h183
      have h184 : cs27 < cs157 ∨ (hd162 = hd ∧ sl165 = sl) := h184
      have h185 : ¬ K116.2.1 0 q4 = 22 → hd162 = hd := h185
      have h186 : gr ≤ gr167 ∧ rg166 ≤ 625 ∧ rg166 ≤ gr167 ∧ (rg166 = 625 ∨ rg166 = gr167) := h186
      have h187 : EnV (B156 26) (B156 27) nd vr161 hd162 c0 sl165 := h187
      have h188 : StW pb.1 pb.2.1 pb.2.2.1 pb.2.2.2 Ag32 Ag164 Q9 Q169 pd33 pd170 m9 dp163 lw cs27 cs157 wt29 as158 hd hd162 sl sl165 gr gr167 (B156 16) (B156 17) (B156 18) (B156 19) [] := h188
      have h189 : LpS K155 (B156 16) (B156 17) Ag164 pd170 (some q86) lw cs157 hd162 sl165 hd sl xb171 xc172 := h189
      have h190 : PdS pd33 pd170 ([] : List Nat) xb171 ([] : List Nat) xc172 [] cs27 cs157 := h190
      have h191 : RgQx B156 Q169 gr167 nd := h191
      have h192 : LpR K155 (some q86) (¬ as9 = -1) := h192
      obtain rfl : v152 = none := hw151
      have hf193 : K155.1 pq = 7 := (BdE.T h174 hf120 (by decide))
      have hf194 : K155.2.2.1 18 pq = some (a 1) := (BdE.C h174 (by rw [hf120]; decide) 18).trans hf121
      have hf195 : K155.2.2.1 14 pq = some dr := (BdE.C h174 (by rw [hf120]; decide) 14).trans hf122
      have hf196 : K155.1 dr = 8 := (BdE.T h174 hf123 (by decide))
      have hf197 : K155.2.2.1 15 pq = some ml := (BdE.C h174 (by rw [hf120]; decide) 15).trans hf124
      have hf198 : K155.1 ml = 5 := (BdE.T h174 hf125 (by decide))
      have hf199 : K155.2.1 24 pq = (nI nd) := (BdE.I h174 (by rw [hf120]; decide) (by decide) (by decide)).trans hf126
      have hf200 : K155.1 q = 1 := (BdE.T h174 hf127 (by decide))
      have hf201 : K155.1 mq = 3 := (BdE.T h174 hf128 (by decide))
      have hf202 : K155.2.1 10 mq = (nI rt) := (BdE.I h174 (by rw [hf128]; decide) (by decide) (by decide)).trans hf129
      have hf203 : K155.2.2.1 3 q = some q4 := (BdE.C h174 (by rw [hf127]; decide) 3).trans hf130
      have hf204 : K155.1 q4 = 1 := (BdE.T h174 hf131 (by decide))
      have hf205 : K155.2.2.1 1 q = ob := (BdE.C h174 (by rw [hf127]; decide) 1).trans hf132
      have hf206 : K155.2.2.1 0 q = none := (BdE.C h174 (by rw [hf127]; decide) 0).trans hf133
      have hf207 : K155.2.2.1 2 q = none := (BdE.C h174 (by rw [hf127]; decide) 2).trans hf134
      have hf208 : K155.1 q86 = 9 := (BdE.T h174 hf135 (by decide))
      have hf209 : K155.2.2.1 16 q86 = lp9 := (BdE.C h174 (by rw [hf135]; decide) 16).trans hf136
      have hO : OKP G h0 a (upd (upd (upd (upd (upd (upd (upd (upd (upd (upd F 2 (nI sz)) 5 (nI cs157)) 6 (nI rg166)) 7 (nI hd162)) 8 (nI dp163)) 12 (nI vr161)) 13 as158) 14 wt159) 15 wf160) 16 ls168) (updR (updR (updR R 2 (.ref pq)) 3 (.ref mq)) 4 (.ref q86)) Z B156 J K155 w := hO.to rfl
      refine W.widen (k := (1 + (rE (g 2 q4) - rS (g 2 q4)))) (n := (6 + (6 * (rE (g 2 q4) - rS (g 2 q4))))) (by show 1 + (rE (g 2 q4) - rS (g 2 q4)) ≤ (1 + (rE (g 2 q4) - rS (g 2 q4))); omega) (by show 6 + (6 * (rE (g 2 q4) - rS (g 2 q4))) ≤ (6 + (6 * (rE (g 2 q4) - rS (g 2 q4)))); omega) ?_
      refine W.eq (g2 := F0 m 100 ls []) rfl ?_
      have hbe210 := BdE.trans hbe119 h174
      have hbb211 : Bth B B156 := Bth.trans (show Thx (upd (upd (upd (upd (upd (upd (upd (upd F 2 (nI sz)) 5 (nI cs)) 6 (nI rg)) 7 (nI hd)) 8 (nI dp)) 12 (nI vr)) 13 as9) 16 ls9) (upd (upd (upd (upd (upd (upd (upd (upd (upd (upd (upd (upd F 2 (nI sz)) 5 (nI cs)) 6 (nI rg)) 7 (nI hd)) 8 (nI dp)) 12 (nI vr)) 13 as9) 16 ls9) 5 (nI cs27)) 13 wt29) 14 wt29) 15 wf30) B B26 from (Thx.f (Thx.f (Thx.f (Thx.f (Bth.thx hbb63) (by omega)) (by omega)) (by omega)) (by omega))).2 h177
      have hng212 : Nng (B156 18) := h177.2 hng64
      have hsw213 : ∀ x9 : Nat, x9 < cs → (B156 16) x9 = B 16 x9 := fun x9 hx9 => ((h173 x9 (by omega)).1).trans (hsw65 x9 hx9)
      have hsw214 : ∀ x9 : Nat, x9 < cs → (B156 17) x9 = B 17 x9 := fun x9 hx9 => ((h173 x9 (by omega)).2.1).trans (hsw66 x9 hx9)
      have hsw215 : ∀ x9 : Nat, x9 < cs → (B156 18) x9 = B 18 x9 := fun x9 hx9 => ((h173 x9 (by omega)).2.2.1).trans (hsw67 x9 hx9)
      have hsw216 : ∀ x9 : Nat, x9 < cs → (B156 19) x9 = B 19 x9 := fun x9 hx9 => ((h173 x9 (by omega)).2.2.2).trans (hsw68 x9 hx9)
      have hsx217 : ∀ x9 : Nat, x9 < cs → (B156 16) x9 = (B 16) x9 := fun x9 hx9 => ((h173 x9 (by omega)).1).trans (hsx69 x9 hx9)
      have hsx218 : ∀ x9 : Nat, x9 < cs → (B156 17) x9 = (B 17) x9 := fun x9 hx9 => ((h173 x9 (by omega)).2.1).trans (hsx70 x9 hx9)
      have hsx219 : ∀ x9 : Nat, x9 < cs → (B156 18) x9 = (B 18) x9 := fun x9 hx9 => ((h173 x9 (by omega)).2.2.1).trans (hsx71 x9 hx9)
      have hsx220 : ∀ x9 : Nat, x9 < cs → (B156 19) x9 = (B 19) x9 := fun x9 hx9 => ((h173 x9 (by omega)).2.2.2).trans (hsx72 x9 hx9)
      have hbf221 := BeF.trans hbf139 h175 hbe119
      have hbl223 : BeL K K155 lp9 := BeL.new hbl140 hbe119 hinn h176
      have hbr222 : BtR B B156 := BtR.trans hbr74 h178
      have hvs224 : VrS B B156 vr := VrS.trans hvs76 h183 (by omega)
      have hvF225 : VrS B B156 vr := VrS.trans hvF77 h183 (by omega)
      have hst226 : StW pb.1 pb.2.1 pb.2.2.1 pb.2.2.2 Ag Ag164 Q9 Q169 pd pd170 m9 dp163 lw cs cs157 as9 as158 hd hd162 sl sl165 gr gr167 (B156 16) (B156 17) (B156 18) (B156 19) ([] : List Nat) := StW.seq hst80 (by omega) (fun x9 hx9 => ⟨(h173 x9 hx9).1, (h173 x9 hx9).2.1⟩) h188
      have hsn227 := hst226.1.2.2.2.1
      have hj228 : (B156 16) cs = (nI 0) := ((h173 cs (by omega)).1).trans hj81
      have hj229 : Ag164 cs = (rcA as9, hd, sl, ([] : List Nat)) := (h188.2.2.1 cs (by omega)).trans hj82
      have hex230 : ExJ (B156 16) (B156 17) Ag164 x31 ex34 lw (cs + 1) cs27 hd sl wt29 wf30 := ExJ.same h45 (fun z8 hz8 => ⟨(h173 z8 (by omega)).1, (h173 z8 (by omega)).2.1⟩) (fun z8 hz8 => h188.2.2.1 z8 (by omega))
      have hbk231 : BeL K K155 (some q86) := BeL.trans hbk148 h176 hbj146
      have hbj232 : BdE K K155 := BdE.trans hbj146 h174
      have hlr233 : LpR K155 lp9 rL := LpR.same hlr147 (fun lq9 e9 f9 _ _ => h176 lq9 (LpO.be hbe119 hlo lq9 e9) (fun z => by have y9 := hlo lq9 e9; have v9 := Option.some.inj z; rw [← v9, hinn] at y9; exact absurd y9 (by decide)) f9)
      have hnlhd162 : hd162 = hd := h185 (by rw [BdE.I hbe119 (by rw [hsd2.1]; decide) (by decide) (by decide)]; exact hsd2.2)
      obtain rfl : vr = vr161 := by omega
      obtain rfl : hd = hd162 := hnlhd162.symm
      have h173 : SmW B26 B156 cs27 := h173
      have h174 : BdE K116 K155 := h174
      have h175 : BeF K116 K155 := h175
      have h176 : BeL K116 K155 (some q86) := h176
      have h177 : Bth B26 B156 := h177
      have h178 : BtR B26 B156 := h178
      have h179 : cs27 ≤ cs157 ∧ cs157 + 0 ≤ cs27 + 2 * tlE g q4 := h179
      have h180 : dp ≤ dp163 ∧ dp163 ≤ 71 := h180
      have h181 : vr ≤ vr ∧ vr ≤ 30 ∧ hd + vr = hd + vr := h181
      have h182 : AsO as158 := h182
      have h183 : VrS B26 B156 vr := h183
      have h184 : cs27 < cs157 ∨ (hd = hd ∧ sl165 = sl) := h184
      have h185 : ¬ K116.2.1 0 q4 = 22 → hd = hd := h185
      have h186 : gr ≤ gr167 ∧ rg166 ≤ 625 ∧ rg166 ≤ gr167 ∧ (rg166 = 625 ∨ rg166 = gr167) := h186
      have h187 : EnV (B156 26) (B156 27) nd vr hd c0 sl165 := h187
      have h188 : StW pb.1 pb.2.1 pb.2.2.1 pb.2.2.2 Ag32 Ag164 Q9 Q169 pd33 pd170 m9 dp163 lw cs27 cs157 wt29 as158 hd hd sl sl165 gr gr167 (B156 16) (B156 17) (B156 18) (B156 19) [] := h188
      have h189 : LpS K155 (B156 16) (B156 17) Ag164 pd170 (some q86) lw cs157 hd sl165 hd sl xb171 xc172 := h189
      have h190 : PdS pd33 pd170 ([] : List Nat) xb171 ([] : List Nat) xc172 [] cs27 cs157 := h190
      have h191 : RgQx B156 Q169 gr167 nd := h191
      have h192 : LpR K155 (some q86) (¬ as9 = -1) := h192
      have hlpi := h189
      obtain ⟨hi1, hi2, hi3, hi4, hi5, hi6, hi7, hi8, hi9, hi10⟩ := LpS.c hlpi
      have hidis := (hlpi.2.2 q86 rfl).2
      have hpdi := h190
      have hlri := h192 q86 rfl
      obtain ⟨bv, hbv⟩ : ∃ z : Int32, K155.2.1 27 q86 = z := ⟨_, rfl⟩
      obtain ⟨cv, hcv⟩ : ∃ z : Int32, K155.2.1 28 q86 = z := ⟨_, rfl⟩
      obtain ⟨bsv, hbsv⟩ : ∃ z : Int32, K155.2.1 29 q86 = z := ⟨_, rfl⟩
      obtain ⟨csv, hcsv⟩ : ∃ z : Int32, K155.2.1 30 q86 = z := ⟨_, rfl⟩
      rw [hbv] at hi1
      rw [hcv] at hi2
      rw [hbsv] at hi3 hi5 hlri
      rw [hcsv] at hi4 hi6 hlri
      have hgeb : ∀ z9 : Nat, z9 ∈ xb171 → cs27 ≤ z9 := fun z9 hz9 => (hpdi.2.2.2.2.1 z9 hz9).resolve_left (List.not_mem_nil)
      have hgec : ∀ z9 : Nat, z9 ∈ xc172 → cs27 ≤ z9 := fun z9 hz9 => (hpdi.2.2.2.2.2.1 z9 hz9).resolve_left (List.not_mem_nil)
      have hbrq : BrJ (B156 16) (B156 17) Ag164 bv bsv xb171 lw cs157 hd sl := ⟨hi1, hi3⟩
      refine lv_aload_n hx hb dX0_loopStatement_100 rfl (lv_at hl 5 rfl) ?_
      refine c_get (v := .ref (a 2)) (C := RX0) (Tc := TX0) (N := 13) (ci := 0) hx hb hq pin_wsX00 hown hE hP hO 24 (sg_24 G h0 a _ _ _ _ _) rfl 1 (by decide) (hq _ pw_5) (fun _ h9 => h9) rfl dX0_loopStatement_101 ?_
      refine lv_aload_n hx hb dX0_loopStatement_104 rfl (lv_at hl 5 rfl) ?_
      refine c_get (v := .ref q86) (C := RX0) (Tc := TX0) (N := 13) (ci := 0) hx hb hq pin_wsX00 hown hE hP hO 24 (sg_24 G h0 a _ _ _ _ _) rfl 11 (by decide) (hq _ pw_73) (fun _ h9 => h9) rfl dX0_loopStatement_105 ?_
      refine p_get (v := .int cv) (C := RX4) (Tc := TX4) (N := 6) (ci := 11) hx hb hq pin_wsX40 hown hE hP hO (by rw [hf208]; decide) (rep_9 hf208) rfl 3 (by decide) (hq _ pw_284) (fun _ h9 => h9) (congrArg (fun z => some (Value.int z)) hcv) dX0_loopStatement_108 ?_
      have hao234 := AsO.and h182 hi6
      have hO : OKW G h0 a (upd (upd (upd (upd (upd (upd (upd (upd (upd (upd (upd F 2 (nI sz)) 5 (nI cs157)) 6 (nI rg166)) 7 (nI hd)) 8 (nI dp163)) 12 (nI vr)) 13 as158) 14 wt159) 15 wf160) 16 ls168) 5 (nI cs157)) (updR (updR (updR R 2 (.ref pq)) 3 (.ref mq)) 4 (.ref q86)) Z B156 J K155.1 (fun q99 x99 => x99 = rep G a K155 q99) w := hO.to rfl
      obtain ⟨_, qr238, hqr239⟩ := hO.2.1 13 _ (sg_13 G h0 a _ _ _ _ _)
      refine pc_V0 (G := G) (As := [.int cv]) (rest := []) hx hb hml hown hq hE hX pX0_al hP hD hS hA hl.1 (Y_land l G h0 a (upd (upd (upd (upd (upd (upd (upd (upd (upd (upd F 2 (nI sz)) 5 (nI cs157)) 6 (nI rg166)) 7 (nI hd)) 8 (nI dp163)) 12 (nI vr)) 13 as158) 14 wt159) 15 wf160) 16 ls168) (updR (updR (updR R 2 (.ref pq)) 3 (.ref mq)) 4 (.ref q86)) Z B156 J K155.1 (fun q99 x99 => x99 = rep G a K155 q99) w cv cs157 xc172 (by omega) hi2 (fun y9 hy9 => (hi4 y9 hy9).2.1) hO) (gV pw_200 pw_201 pw_202 pw_70 pw_134) hV_X1_land qr238 1 hqr239 rfl rfl rfl (Nat.le_of_ble_eq_true rfl) dX0_loopStatement_111 ⟨(by show (1 + (rE (g 2 q4) - rS (g 2 q4))) + 0 ≤ ((rE (g 2 q) - rS (g 2 q)) + 1); omega), (by show (6 + (6 * (rE (g 2 q4) - rS (g 2 q4)))) + 0 ≤ (6 * (rE (g 2 q) - rS (g 2 q)) + 6); omega)⟩ ⟨(by show 2 + 1 ≤ (5 * n + 46); omega), (by show 8 + (5 + 11) + 60 ≤ (200 * n + 1120); omega)⟩ (fun v237 u235 H locs hw236 hP hD hS => ?_)
      obtain ⟨w, _⟩ := u235
      obtain ⟨hw236, hO⟩ := hw236
      obtain rfl : v237 = none := hw236
      have hO : OKP G h0 a (upd (upd (upd (upd (upd (upd (upd (upd (upd (upd F 2 (nI sz)) 5 (nI cs157)) 6 (nI rg166)) 7 (nI hd)) 8 (nI dp163)) 12 (nI vr)) 13 as158) 14 wt159) 15 wf160) 16 ls168) (updR (updR (updR R 2 (.ref pq)) 3 (.ref mq)) 4 (.ref q86)) Z (updA B156 17 (aim ((B156 17)) xc172 cs157)) J K155 w := hO.to rfl
      refine W.widen (k := (1 + (rE (g 2 q4) - rS (g 2 q4)))) (n := (6 + (6 * (rE (g 2 q4) - rS (g 2 q4))))) (by show (1 + (rE (g 2 q4) - rS (g 2 q4))) + 0 ≤ (1 + (rE (g 2 q4) - rS (g 2 q4))); omega) (by show (6 + (6 * (rE (g 2 q4) - rS (g 2 q4)))) + 0 ≤ (6 + (6 * (rE (g 2 q4) - rS (g 2 q4)))); omega) ?_
      refine W.eq (g2 := F0 m 114 ls []) rfl ?_
      have hsw240 : ∀ x9 : Nat, x9 < cs → (aim ((B156 17)) xc172 cs157) x9 = B 17 x9 := fun x9 hx9 => (aim_no (fun q9 => by have e9 := hgec x9 q9; omega)).trans (hsw214 x9 hx9)
      have hsx241 : ∀ x9 : Nat, x9 < cs → (aim ((B156 17)) xc172 cs157) x9 = (B 17) x9 := fun x9 hx9 => (aim_no (fun q9 => by have e9 := hgec x9 q9; omega)).trans (hsx218 x9 hx9)
      obtain ⟨Ag242, hst243, hag244⟩ : ∃ A5 : Nat → AS, StW pb.1 pb.2.1 pb.2.2.1 pb.2.2.2 Ag A5 Q9 Q169 pd (pdm pd170 xc172) m9 dp163 lw cs cs157 as9 (as158 &&& csv) hd hd sl sl gr gr167 (B156 16) (aim ((B156 17)) xc172 cs157) (B156 18) (B156 19) ([] : List Nat) ∧ ∀ x9 : Nat, x9 < cs157 → A5 x9 = Ag164 x9 := ⟨(upS Ag164 cs157 (rcA (as158 &&& csv), hd, sl, ([] : List Nat))), StW.lnd (bs := csv) hst226 hi8 hi4 (fun z9 => and_n2 z9) (fun z9 => and_n1 z9) (fun z9 hz9 => by have y9 := hgec z9 hz9; omega) ⟨by omega, by omega⟩ (fun z9 e9 => z9 (and_m1.mpr ⟨Classical.byContradiction fun y9 => hst226.2.2.2.2.2.1 y9 e9, Classical.byContradiction fun y9 => hlri.2 y9 e9⟩)) hwfF (by omega), fun x9 hx9 => upS_ne (by omega)⟩
      have hen245 := EnV.back hen hvs224
      have hj246 : (B156 16) cs = (nI 0) := (rfl).trans hj228
      have hj247 : Ag242 cs = (rcA as9, hd, sl, ([] : List Nat)) := (hag244 cs (by omega)).trans hj229
      have hex248 : ExJ (B156 16) (aim ((B156 17)) xc172 cs157) Ag242 x31 ex34 lw (cs + 1) cs27 hd sl wt29 wf30 := ExJ.land hex230 (fun z8 hz8 => ⟨rfl, aim_no (fun q9 => by have e9 := hgec z8 q9; omega)⟩) (by omega) hag244 hst243.1.1.2 hst226.1.1.2 (fun z9 => and_n1 z9)
      have hbq249 : BrJ (B156 16) (aim ((B156 17)) xc172 cs157) Ag242 bv bsv xb171 lw cs157 hd sl := BrJ.same hbrq (fun z9 hz9 => by have y9 := BrJ.lt hbrq z9 hz9; have y8 := hgeb z9 hz9; exact ⟨rfl, aim_no (fun q9 => by have e9 := (absurd q9 (hidis z9 hz9) : (0 : Nat) = 1); omega), hag244 z9 (by omega)⟩) (by omega)
      refine lv_aload_n hx hb dX0_loopStatement_114 rfl (lv_at hl 6 rfl) ?_
      refine p_get (v := .null) (C := RX7) (Tc := TX7) (N := 11) (ci := 13) hx hb hq pin_wsX70 hown hE hP hO (by rw [hf200]; decide) (rep_1 hf200) rfl 8 (by decide) (hq _ pw_196) (fun _ h9 => h9) (congrArg (fun z => some (va_rf z)) hf207) dX0_loopStatement_115 ?_
      refine lv_ifnullN (tgt := 146) hx hb dX0_loopStatement_118 (by decide) ?_
      refine lv_aload_n hx hb dX0_loopStatement_146 rfl (lv_at hl 5 rfl) ?_
      refine c_get (v := .ref (a 2)) (C := RX0) (Tc := TX0) (N := 13) (ci := 0) hx hb hq pin_wsX00 hown hE hP hO 24 (sg_24 G h0 a _ _ _ _ _) rfl 1 (by decide) (hq _ pw_5) (fun _ h9 => h9) rfl dX0_loopStatement_147 ?_
      refine lv_bipush (v := 6) hx hb dX0_loopStatement_150 (by decide) ?_
      refine lv_iload hx hb dX0_loopStatement_152 (lv_at hl 2 rfl) ?_
      refine lv_iconst (v := 0) hx hb dX0_loopStatement_154 (by decide) ?_
      have hO : OKW G h0 a (upd (upd (upd (upd (upd (upd (upd (upd (upd (upd (upd (upd F 2 (nI sz)) 5 (nI cs157)) 6 (nI rg166)) 7 (nI hd)) 8 (nI dp163)) 12 (nI vr)) 13 as158) 14 wt159) 15 wf160) 16 ls168) 5 (nI cs157)) 7 (nI hd)) (updR (updR (updR R 2 (.ref pq)) 3 (.ref mq)) 4 (.ref q86)) Z (updA B156 17 (aim ((B156 17)) xc172 cs157)) J K155.1 (fun q99 x99 => x99 = rep G a K155 q99) w := hO.to rfl
      obtain ⟨_, qr253, hqr254⟩ := hO.2.1 13 _ (sg_13 G h0 a _ _ _ _ _)
      refine pc_V0 (G := G) (As := [.int 6, .int (nI cs), .int 0]) (rest := []) hx hb hml hown hq hE hX pX0_al hP hD hS hA hl.1 (Y_emit l G h0 a (upd (upd (upd (upd (upd (upd (upd (upd (upd (upd F 2 (nI sz)) 5 (nI cs157)) 6 (nI rg166)) 7 (nI hd)) 8 (nI dp163)) 12 (nI vr)) 13 as158) 14 wt159) 15 wf160) 16 ls168) (updR (updR (updR R 2 (.ref pq)) 3 (.ref mq)) 4 (.ref q86)) Z (updA B156 17 (aim ((B156 17)) xc172 cs157)) J K155.1 (fun q99 x99 => x99 = rep G a K155 q99) w 6 (nI cs) 0 cs157 hd (by omega) hO) (gV pw_129 pw_130 pw_131 pw_70 pw_115) hV_X1_emit qr253 1 hqr254 rfl rfl rfl (Nat.le_of_ble_eq_true rfl) dX0_loopStatement_155 ⟨(by show (1 + (rE (g 2 q4) - rS (g 2 q4))) + 0 ≤ ((rE (g 2 q) - rS (g 2 q)) + 1); omega), (by show (6 + (6 * (rE (g 2 q4) - rS (g 2 q4)))) + 0 ≤ (6 * (rE (g 2 q) - rS (g 2 q)) + 6); omega)⟩ ⟨(by show 2 + 1 ≤ (5 * n + 46); omega), (by show 8 + (4 + 11) + 60 ≤ (200 * n + 1120); omega)⟩ (fun v252 u250 H locs hw251 hP hD hS => ?_)
      obtain ⟨w, _⟩ := u250
      obtain ⟨hw251, hO⟩ := hw251
      obtain rfl : v252 = none := hw251
      have hO : OKP G h0 a (upd (upd (upd (upd (upd (upd (upd (upd (upd (upd F 2 (nI sz)) 5 (nI (cs157 + 1))) 6 (nI rg166)) 7 (nI hd)) 8 (nI dp163)) 12 (nI vr)) 13 as158) 14 wt159) 15 wf160) 16 ls168) (updR (updR (updR R 2 (.ref pq)) 3 (.ref mq)) 4 (.ref q86)) Z (updA (updA (updA (updA B156 16 (upd ((B156 16)) cs157 6)) 17 (upd ((aim ((B156 17)) xc172 cs157)) cs157 (nI cs))) 18 (upd ((B156 18)) cs157 0)) 19 (upd ((B156 19)) cs157 (nI hd))) J K155 w := hO.to rfl
      refine W.widen (k := (1 + (rE (g 2 q4) - rS (g 2 q4)))) (n := (6 + (6 * (rE (g 2 q4) - rS (g 2 q4))))) (by show (1 + (rE (g 2 q4) - rS (g 2 q4))) + 0 ≤ (1 + (rE (g 2 q4) - rS (g 2 q4))); omega) (by show (6 + (6 * (rE (g 2 q4) - rS (g 2 q4)))) + 0 ≤ (6 + (6 * (rE (g 2 q4) - rS (g 2 q4)))); omega) ?_
      refine W.eq (g2 := F0 m 158 ls []) rfl ?_
      have hsw255 : ∀ x9 : Nat, x9 < cs → (upd ((B156 16)) cs157 6) x9 = B 16 x9 := fun x9 hx9 => (if_neg (by omega)).trans (hsw213 x9 hx9)
      have hsw256 : ∀ x9 : Nat, x9 < cs → (upd ((aim ((B156 17)) xc172 cs157)) cs157 (nI cs)) x9 = B 17 x9 := fun x9 hx9 => (if_neg (by omega)).trans (hsw240 x9 hx9)
      have hsw257 : ∀ x9 : Nat, x9 < cs → (upd ((B156 18)) cs157 0) x9 = B 18 x9 := fun x9 hx9 => (if_neg (by omega)).trans (hsw215 x9 hx9)
      have hsw258 : ∀ x9 : Nat, x9 < cs → (upd ((B156 19)) cs157 (nI hd)) x9 = B 19 x9 := fun x9 hx9 => (if_neg (by omega)).trans (hsw216 x9 hx9)
      have hsx259 : ∀ x9 : Nat, x9 < cs → (upd ((B156 16)) cs157 6) x9 = (B 16) x9 := fun x9 hx9 => (if_neg (by omega)).trans (hsx217 x9 hx9)
      have hsx260 : ∀ x9 : Nat, x9 < cs → (upd ((aim ((B156 17)) xc172 cs157)) cs157 (nI cs)) x9 = (B 17) x9 := fun x9 hx9 => (if_neg (by omega)).trans (hsx241 x9 hx9)
      have hsx261 : ∀ x9 : Nat, x9 < cs → (upd ((B156 18)) cs157 0) x9 = (B 18) x9 := fun x9 hx9 => (if_neg (by omega)).trans (hsx219 x9 hx9)
      have hsx262 : ∀ x9 : Nat, x9 < cs → (upd ((B156 19)) cs157 (nI hd)) x9 = (B 19) x9 := fun x9 hx9 => (if_neg (by omega)).trans (hsx220 x9 hx9)
      obtain ⟨Ag263, hst264, hag265⟩ : ∃ A5 : Nat → AS, StW pb.1 pb.2.1 pb.2.2.1 pb.2.2.2 Ag A5 Q9 Q169 pd (pdm pd170 xc172) m9 dp163 lw cs (cs157 + 1) as9 (-1) hd hd sl sl gr gr167 (upd ((B156 16)) cs157 6) (upd ((aim ((B156 17)) xc172 cs157)) cs157 (nI cs)) (upd ((B156 18)) cs157 0) (upd ((B156 19)) cs157 (nI hd)) ([] : List Nat) ∧ ∀ x9 : Nat, x9 ≤ cs157 → A5 x9 = Ag242 x9 := ⟨(upS Ag242 (cs157 + 1) (rcA (-1), hd, sl, ([] : List Nat))), StW.back hst243 ⟨by omega, by omega⟩ hj246 (fun z9 => by rw [hj247]; exact ⟨rcA_1 (hst243.2.2.2.2.2.1 z9), hst243.2.2.2.2.2.2.1.1, fun s9 hs9 => (hst243.2.2.2.2.2.2.1.2 s9 hs9).symm, trivial⟩), fun x9 hx9 => upS_ne (by omega)⟩
      have hng266 : Nng (upd ((B156 18)) cs157 0) := Nng.set hng212 (k := 0) (by omega)
      have hj267 : (upd ((B156 16)) cs157 6) cs = (nI 0) := (if_neg (by omega)).trans hj246
      have hj268 : Ag263 cs = (rcA as9, hd, sl, ([] : List Nat)) := (hag265 cs (by omega)).trans hj247
      have hex269 : ExJ (upd ((B156 16)) cs157 6) (upd ((aim ((B156 17)) xc172 cs157)) cs157 (nI cs)) Ag263 x31 ex34 lw (cs + 1) cs27 hd sl wt29 wf30 := ExJ.same hex248 (fun z8 hz8 => ⟨if_neg (by omega), if_neg (by omega)⟩) (fun z8 hz8 => hag265 z8 (by omega))
      have hbq270 : BrJ (upd ((B156 16)) cs157 6) (upd ((aim ((B156 17)) xc172 cs157)) cs157 (nI cs)) Ag263 bv bsv xb171 lw (cs157 + 1) hd sl := BrJ.same hbq249 (fun z9 hz9 => by have y9 := BrJ.lt hbq249 z9 hz9; have y8 := hgeb z9 hz9; exact ⟨if_neg (by omega), if_neg (by omega), hag265 z9 (by omega)⟩) (by omega)
      refine lv_aload_n hx hb dX0_loopStatement_158 rfl (lv_at hl 5 rfl) ?_
      refine c_get (v := .ref (a 2)) (C := RX0) (Tc := TX0) (N := 13) (ci := 0) hx hb hq pin_wsX00 hown hE hP hO 24 (sg_24 G h0 a _ _ _ _ _) rfl 1 (by decide) (hq _ pw_5) (fun _ h9 => h9) rfl dX0_loopStatement_159 ?_
      refine lv_iload hx hb dX0_loopStatement_162 (lv_at hl 1 rfl) ?_
      have hO : OKW G h0 a (upd (upd (upd (upd (upd (upd (upd (upd (upd (upd (upd F 2 (nI sz)) 5 (nI (cs157 + 1))) 6 (nI rg166)) 7 (nI hd)) 8 (nI dp163)) 12 (nI vr)) 13 as158) 14 wt159) 15 wf160) 16 ls168) 5 (nI (cs157 + 1))) (updR (updR (updR R 2 (.ref pq)) 3 (.ref mq)) 4 (.ref q86)) Z (updA (updA (updA (updA B156 16 (upd ((B156 16)) cs157 6)) 17 (upd ((aim ((B156 17)) xc172 cs157)) cs157 (nI cs))) 18 (upd ((B156 18)) cs157 0)) 19 (upd ((B156 19)) cs157 (nI hd))) J K155.1 (fun q99 x99 => x99 = rep G a K155 q99) w := hO.to rfl
      obtain ⟨_, qr274, hqr275⟩ := hO.2.1 13 _ (sg_13 G h0 a _ _ _ _ _)
      refine pc_V0 (G := G) (As := [.int x31]) (rest := []) hx hb hml hown hq hE hX pX0_al hP hD hS hA hl.1 (Y_land l G h0 a (upd (upd (upd (upd (upd (upd (upd (upd (upd (upd F 2 (nI sz)) 5 (nI (cs157 + 1))) 6 (nI rg166)) 7 (nI hd)) 8 (nI dp163)) 12 (nI vr)) 13 as158) 14 wt159) 15 wf160) 16 ls168) (updR (updR (updR R 2 (.ref pq)) 3 (.ref mq)) 4 (.ref q86)) Z (updA (updA (updA (updA B156 16 (upd ((B156 16)) cs157 6)) 17 (upd ((aim ((B156 17)) xc172 cs157)) cs157 (nI cs))) 18 (upd ((B156 18)) cs157 0)) 19 (upd ((B156 19)) cs157 (nI hd))) J K155.1 (fun q99 x99 => x99 = rep G a K155 q99) w x31 (cs157 + 1) ex34 (by omega) (ExJ.chn hex269) (fun y9 hy9 => by have v9 := (ExJ.rng hex269 y9 hy9).2; omega) hO) (gV pw_200 pw_201 pw_202 pw_70 pw_134) hV_X1_land qr274 1 hqr275 rfl rfl rfl (Nat.le_of_ble_eq_true rfl) dX0_loopStatement_164 ⟨(by show (1 + (rE (g 2 q4) - rS (g 2 q4))) + 0 ≤ ((rE (g 2 q) - rS (g 2 q)) + 1); omega), (by show (6 + (6 * (rE (g 2 q4) - rS (g 2 q4)))) + 0 ≤ (6 * (rE (g 2 q) - rS (g 2 q)) + 6); omega)⟩ ⟨(by show 2 + 1 ≤ (5 * n + 46); omega), (by show 8 + (5 + 11) + 60 ≤ (200 * n + 1120); omega)⟩ (fun v273 u271 H locs hw272 hP hD hS => ?_)
      obtain ⟨w, _⟩ := u271
      obtain ⟨hw272, hO⟩ := hw272
      obtain rfl : v273 = none := hw272
      have hO : OKP G h0 a (upd (upd (upd (upd (upd (upd (upd (upd (upd (upd F 2 (nI sz)) 5 (nI (cs157 + 1))) 6 (nI rg166)) 7 (nI hd)) 8 (nI dp163)) 12 (nI vr)) 13 as158) 14 wt159) 15 wf160) 16 ls168) (updR (updR (updR R 2 (.ref pq)) 3 (.ref mq)) 4 (.ref q86)) Z (updA (updA (updA (updA B156 16 (upd ((B156 16)) cs157 6)) 17 (aim ((upd ((aim ((B156 17)) xc172 cs157)) cs157 (nI cs))) ex34 (cs157 + 1))) 18 (upd ((B156 18)) cs157 0)) 19 (upd ((B156 19)) cs157 (nI hd))) J K155 w := hO.to rfl
      refine W.widen (k := (1 + (rE (g 2 q4) - rS (g 2 q4)))) (n := (6 + (6 * (rE (g 2 q4) - rS (g 2 q4))))) (by show (1 + (rE (g 2 q4) - rS (g 2 q4))) + 0 ≤ (1 + (rE (g 2 q4) - rS (g 2 q4))); omega) (by show (6 + (6 * (rE (g 2 q4) - rS (g 2 q4)))) + 0 ≤ (6 + (6 * (rE (g 2 q4) - rS (g 2 q4)))); omega) ?_
      refine W.eq (g2 := F0 m 167 ls []) rfl ?_
      have hsw276 : ∀ x9 : Nat, x9 < cs → (aim ((upd ((aim ((B156 17)) xc172 cs157)) cs157 (nI cs))) ex34 (cs157 + 1)) x9 = B 17 x9 := fun x9 hx9 => (aim_no (fun q9 => by have e9 := (fun z9 hz9 => (ExJ.rng hex269 z9 hz9).1) x9 q9; omega)).trans (hsw256 x9 hx9)
      have hsx277 : ∀ x9 : Nat, x9 < cs → (aim ((upd ((aim ((B156 17)) xc172 cs157)) cs157 (nI cs))) ex34 (cs157 + 1)) x9 = (B 17) x9 := fun x9 hx9 => (aim_no (fun q9 => by have e9 := (fun z9 hz9 => (ExJ.rng hex269 z9 hz9).1) x9 q9; omega)).trans (hsx260 x9 hx9)
      obtain ⟨Ag278, hst279, hag280⟩ : ∃ A5 : Nat → AS, StW pb.1 pb.2.1 pb.2.2.1 pb.2.2.2 Ag A5 Q9 Q169 pd (pdm (pdm pd170 xc172) ex34) m9 dp163 lw cs (cs157 + 1) as9 wf30 hd hd sl sl gr gr167 (upd ((B156 16)) cs157 6) (aim ((upd ((aim ((B156 17)) xc172 cs157)) cs157 (nI cs))) ex34 (cs157 + 1)) (upd ((B156 18)) cs157 0) (upd ((B156 19)) cs157 (nI hd)) ([] : List Nat) ∧ ∀ x9 : Nat, x9 < (cs157 + 1) → A5 x9 = Ag263 x9 := ⟨(upS Ag263 (cs157 + 1) (rcA wf30, hd, sl, ([] : List Nat))), StW.exit hst264 (ExJ.dn hex269 (by omega)) (by omega) (by omega) h43 hwfF (by omega), fun x9 hx9 => upS_ne (by omega)⟩
      have hj281 : (upd ((B156 16)) cs157 6) cs = (nI 0) := (rfl).trans hj267
      have hj282 : Ag278 cs = (rcA as9, hd, sl, ([] : List Nat)) := (hag280 cs (by omega)).trans hj268
      have hbq283 : BrJ (upd ((B156 16)) cs157 6) (aim ((upd ((aim ((B156 17)) xc172 cs157)) cs157 (nI cs))) ex34 (cs157 + 1)) Ag278 bv bsv xb171 lw (cs157 + 1) hd sl := BrJ.same hbq270 (fun z9 hz9 => by have y9 := BrJ.lt hbq270 z9 hz9; have y8 := hgeb z9 hz9; exact ⟨rfl, aim_no (fun q9 => by have e9 := (ExJ.rng hex269 z9 q9); omega), hag280 z9 (by omega)⟩) (by omega)
      refine lv_aload_n hx hb dX0_loopStatement_167 rfl (lv_at hl 5 rfl) ?_
      refine c_get (v := .ref (a 2)) (C := RX0) (Tc := TX0) (N := 13) (ci := 0) hx hb hq pin_wsX00 hown hE hP hO 24 (sg_24 G h0 a _ _ _ _ _) rfl 1 (by decide) (hq _ pw_5) (fun _ h9 => h9) rfl dX0_loopStatement_168 ?_
      refine lv_aload_n hx hb dX0_loopStatement_171 rfl (lv_at hl 5 rfl) ?_
      refine c_get (v := .ref q86) (C := RX0) (Tc := TX0) (N := 13) (ci := 0) hx hb hq pin_wsX00 hown hE hP hO 24 (sg_24 G h0 a _ _ _ _ _) rfl 11 (by decide) (hq _ pw_73) (fun _ h9 => h9) rfl dX0_loopStatement_172 ?_
      refine p_get (v := .int bv) (C := RX4) (Tc := TX4) (N := 6) (ci := 11) hx hb hq pin_wsX40 hown hE hP hO (by rw [hf208]; decide) (rep_9 hf208) rfl 2 (by decide) (hq _ pw_282) (fun _ h9 => h9) (congrArg (fun z => some (Value.int z)) hbv) dX0_loopStatement_175 ?_
      have hao284 := AsO.and h42.2.2 hi5
      have hO : OKW G h0 a (upd (upd (upd (upd (upd (upd (upd (upd (upd (upd (upd F 2 (nI sz)) 5 (nI (cs157 + 1))) 6 (nI rg166)) 7 (nI hd)) 8 (nI dp163)) 12 (nI vr)) 13 as158) 14 wt159) 15 wf160) 16 ls168) 5 (nI (cs157 + 1))) (updR (updR (updR R 2 (.ref pq)) 3 (.ref mq)) 4 (.ref q86)) Z (updA (updA (updA (updA B156 16 (upd ((B156 16)) cs157 6)) 17 (aim ((upd ((aim ((B156 17)) xc172 cs157)) cs157 (nI cs))) ex34 (cs157 + 1))) 18 (upd ((B156 18)) cs157 0)) 19 (upd ((B156 19)) cs157 (nI hd))) J K155.1 (fun q99 x99 => x99 = rep G a K155 q99) w := hO.to rfl
      obtain ⟨_, qr288, hqr289⟩ := hO.2.1 13 _ (sg_13 G h0 a _ _ _ _ _)
      refine pc_V0 (G := G) (As := [.int bv]) (rest := []) hx hb hml hown hq hE hX pX0_al hP hD hS hA hl.1 (Y_land l G h0 a (upd (upd (upd (upd (upd (upd (upd (upd (upd (upd F 2 (nI sz)) 5 (nI (cs157 + 1))) 6 (nI rg166)) 7 (nI hd)) 8 (nI dp163)) 12 (nI vr)) 13 as158) 14 wt159) 15 wf160) 16 ls168) (updR (updR (updR R 2 (.ref pq)) 3 (.ref mq)) 4 (.ref q86)) Z (updA (updA (updA (updA B156 16 (upd ((B156 16)) cs157 6)) 17 (aim ((upd ((aim ((B156 17)) xc172 cs157)) cs157 (nI cs))) ex34 (cs157 + 1))) 18 (upd ((B156 18)) cs157 0)) 19 (upd ((B156 19)) cs157 (nI hd))) J K155.1 (fun q99 x99 => x99 = rep G a K155 q99) w bv (cs157 + 1) xb171 (by omega) hbq283.1 (BrJ.lt hbq283) hO) (gV pw_200 pw_201 pw_202 pw_70 pw_134) hV_X1_land qr288 1 hqr289 rfl rfl rfl (Nat.le_of_ble_eq_true rfl) dX0_loopStatement_178 ⟨(by show (1 + (rE (g 2 q4) - rS (g 2 q4))) + 0 ≤ ((rE (g 2 q) - rS (g 2 q)) + 1); omega), (by show (6 + (6 * (rE (g 2 q4) - rS (g 2 q4)))) + 0 ≤ (6 * (rE (g 2 q) - rS (g 2 q)) + 6); omega)⟩ ⟨(by show 2 + 1 ≤ (5 * n + 46); omega), (by show 8 + (5 + 11) + 60 ≤ (200 * n + 1120); omega)⟩ (fun v287 u285 H locs hw286 hP hD hS => ?_)
      obtain ⟨w, _⟩ := u285
      obtain ⟨hw286, hO⟩ := hw286
      obtain rfl : v287 = none := hw286
      have hO : OKP G h0 a (upd (upd (upd (upd (upd (upd (upd (upd (upd (upd F 2 (nI sz)) 5 (nI (cs157 + 1))) 6 (nI rg166)) 7 (nI hd)) 8 (nI dp163)) 12 (nI vr)) 13 as158) 14 wt159) 15 wf160) 16 ls168) (updR (updR (updR R 2 (.ref pq)) 3 (.ref mq)) 4 (.ref q86)) Z (updA (updA (updA (updA B156 16 (upd ((B156 16)) cs157 6)) 17 (aim ((aim ((upd ((aim ((B156 17)) xc172 cs157)) cs157 (nI cs))) ex34 (cs157 + 1))) xb171 (cs157 + 1))) 18 (upd ((B156 18)) cs157 0)) 19 (upd ((B156 19)) cs157 (nI hd))) J K155 w := hO.to rfl
      refine W.widen (k := (1 + (rE (g 2 q4) - rS (g 2 q4)))) (n := (6 + (6 * (rE (g 2 q4) - rS (g 2 q4))))) (by show (1 + (rE (g 2 q4) - rS (g 2 q4))) + 0 ≤ (1 + (rE (g 2 q4) - rS (g 2 q4))); omega) (by show (6 + (6 * (rE (g 2 q4) - rS (g 2 q4)))) + 0 ≤ (6 + (6 * (rE (g 2 q4) - rS (g 2 q4)))); omega) ?_
      refine W.eq (g2 := F0 m 181 ls []) rfl ?_
      have hsw290 : ∀ x9 : Nat, x9 < cs → (aim ((aim ((upd ((aim ((B156 17)) xc172 cs157)) cs157 (nI cs))) ex34 (cs157 + 1))) xb171 (cs157 + 1)) x9 = B 17 x9 := fun x9 hx9 => (aim_no (fun q9 => by have e9 := hgeb x9 q9; omega)).trans (hsw276 x9 hx9)
      have hsx291 : ∀ x9 : Nat, x9 < cs → (aim ((aim ((upd ((aim ((B156 17)) xc172 cs157)) cs157 (nI cs))) ex34 (cs157 + 1))) xb171 (cs157 + 1)) x9 = (B 17) x9 := fun x9 hx9 => (aim_no (fun q9 => by have e9 := hgeb x9 q9; omega)).trans (hsx277 x9 hx9)
      obtain ⟨Ag292, hst293, hag294⟩ : ∃ A5 : Nat → AS, StW pb.1 pb.2.1 pb.2.2.1 pb.2.2.2 Ag A5 Q9 Q169 pd (pdm (pdm (pdm pd170 xc172) ex34) xb171) m9 dp163 lw cs (cs157 + 1) as9 (wf30 &&& bsv) hd hd sl sl gr gr167 (upd ((B156 16)) cs157 6) (aim ((aim ((upd ((aim ((B156 17)) xc172 cs157)) cs157 (nI cs))) ex34 (cs157 + 1))) xb171 (cs157 + 1)) (upd ((B156 18)) cs157 0) (upd ((B156 19)) cs157 (nI hd)) ([] : List Nat) ∧ ∀ x9 : Nat, x9 < (cs157 + 1) → A5 x9 = Ag278 x9 := ⟨(upS Ag278 (cs157 + 1) (rcA (wf30 &&& bsv), hd, sl, ([] : List Nat))), StW.lnd (bs := bsv) hst279 (fun z9 hz9 => ⟨⟨hi7 z9 hz9, fun q9 => hidis z9 hz9 q9⟩, fun q9 => by have y9 := hgeb z9 hz9; have y8 := (ExJ.rng hex269 z9 q9).2; omega⟩) hbq283.2 (fun z9 => and_n2 z9) (fun z9 => and_n1 z9) (fun z9 hz9 => by have y9 := hgeb z9 hz9; omega) ⟨by omega, by omega⟩ (fun z9 e9 => z9 (and_m1.mpr ⟨Classical.byContradiction fun y9 => h43 y9 e9, Classical.byContradiction fun y9 => hlri.1 y9 e9⟩)) hwfF (by omega), fun x9 hx9 => upS_ne (by omega)⟩
      have hj295 : (upd ((B156 16)) cs157 6) cs = (nI 0) := (rfl).trans hj281
      have hj296 : Ag292 cs = (rcA as9, hd, sl, ([] : List Nat)) := (hag294 cs (by omega)).trans hj282
      refine lv_aload_n hx hb dX0_loopStatement_181 rfl (lv_at hl 5 rfl) ?_
      refine lv_iload hx hb dX0_loopStatement_182 (lv_at hl 0 rfl) ?_
      refine lv_aload_n hx hb dX0_loopStatement_184 rfl (lv_at hl 5 rfl) ?_
      refine c_get (v := .ref q86) (C := RX0) (Tc := TX0) (N := 13) (ci := 0) hx hb hq pin_wsX00 hown hE hP hO 24 (sg_24 G h0 a _ _ _ _ _) rfl 11 (by decide) (hq _ pw_73) (fun _ h9 => h9) rfl dX0_loopStatement_185 ?_
      refine p_get (v := .int bsv) (C := RX4) (Tc := TX4) (N := 6) (ci := 11) hx hb hq pin_wsX40 hown hE hP hO (by rw [hf208]; decide) (rep_9 hf208) rfl 4 (by decide) (hq _ pw_283) (fun _ h9 => h9) (congrArg (fun z => some (Value.int z)) hbsv) dX0_loopStatement_188 ?_
      refine lv_iand hx hb dX0_loopStatement_191 ?_
      refine lv_topi (fun x297 e298 => ?_)
      obtain rfl : x297 = (wf30 &&& bsv) := e298
      refine c_put (v := .int (wf30 &&& bsv)) (ty := .int) (C := RX0) (Tc := TX0) (N := 13) (ci := 0) hx hb hq pin_wsX00 tyX0 tyX0_ok nmX0 hown hE hP hD hS hO 24 (sg_24 G h0 a _ _ _ _ _) rfl 8 (by decide) (hq _ pw_55) (fun _ h9 => h9) rfl (by decide +kernel) rfl rfl (Nat.le_of_ble_eq_true rfl) (sf_13 G h0 a _ _ _ _ _ (wf30 &&& bsv)) dX0_loopStatement_192 (fun H locs w hP hD hS hO => ?_)
      refine lv_aload_n hx hb dX0_loopStatement_195 rfl (lv_at hl 5 rfl) ?_
      refine lv_aload_n hx hb dX0_loopStatement_196 rfl (lv_at hl 5 rfl) ?_
      refine c_get (v := .ref q86) (C := RX0) (Tc := TX0) (N := 13) (ci := 0) hx hb hq pin_wsX00 hown hE hP hO 24 (sg_24 G h0 a _ _ _ _ _) rfl 11 (by decide) (hq _ pw_73) (fun _ h9 => h9) rfl dX0_loopStatement_197 ?_
      refine p_get (v := va_rf lp9) (C := RX4) (Tc := TX4) (N := 6) (ci := 11) hx hb hq pin_wsX40 hown hE hP hO (by rw [hf208]; decide) (rep_9 hf208) rfl 0 (by decide) (hq _ pw_317) (fun _ h9 => h9) (congrArg (fun z => some (va_rf z)) hf209) dX0_loopStatement_200 ?_
      refine c_put (v := va_rf lp9) (ty := (.object "JinjaTongue$Loop")) (C := RX0) (Tc := TX0) (N := 13) (ci := 0) hx hb hq pin_wsX00 tyX0 tyX0_ok nmX0 hown hE hP hD hS hO 24 (sg_24 G h0 a _ _ _ _ _) rfl 11 (by decide) (hq _ pw_73) (fun _ h9 => h9) rfl (by decide +kernel) (by cases lp9 <;> first | rfl | exact Nat.le_of_ble_eq_true rfl) (by cases lp9 <;> first | rfl | exact Nat.le_of_ble_eq_true rfl) (by cases lp9 <;> first | rfl | exact Nat.le_of_ble_eq_true rfl) (sr_4 G h0 a _ _ _ _ _ (va_rf lp9)) dX0_loopStatement_203 (fun H locs w hP hD hS hO => ?_)
      refine lv_aload_n hx hb dX0_loopStatement_206 rfl (lv_at hl 5 rfl) ?_
      refine lv_iload_n hx hb dX0_loopStatement_207 rfl (lv_at hl 4 rfl) ?_
      refine lv_iload_n hx hb dX0_loopStatement_208 rfl (lv_at hl 3 rfl) ?_
      have hstL : StW pb.1 pb.2.1 pb.2.2.1 pb.2.2.2 Ag Ag292 Q9 Q169 pd (pdm (pdm (pdm pd170 xc172) ex34) xb171) m9 dp163 lw cs (cs157 + 1) as9 (wf30 &&& bsv) hd hd sl sl gr gr167 (upd ((B156 16)) cs157 6) (aim ((aim ((upd ((aim ((B156 17)) xc172 cs157)) cs157 (nI cs))) ex34 (cs157 + 1))) xb171 (cs157 + 1)) (upd ((B156 18)) cs157 0) (upd ((B156 19)) cs157 (nI hd)) ([] : List Nat) := StW.seq hst0 (by omega) (fun x9 hx9 => ⟨hsx259 x9 hx9, hsx291 x9 hx9⟩) hst293
      have hpdL : PdS pd (pdm (pdm (pdm pd170 xc172) ex34) xb171) xb xb xc xc ([] : List Nat) cs (cs157 + 1) := PdS.loop (PdS.rfl (cs1 := cs)) hlp.1 h46 (fun z9 hz9 => by have y9 := (ExJ.rng hex269 z9 hz9).1; omega) hpdi (by omega) (by omega)
      have hlpL : LpS K155 (upd ((B156 16)) cs157 6) (aim ((aim ((upd ((aim ((B156 17)) xc172 cs157)) cs157 (nI cs))) ex34 (cs157 + 1))) xb171 (cs157 + 1)) Ag292 (pdm (pdm (pdm pd170 xc172) ex34) xb171) lp9 lw (cs157 + 1) hd sl hdL slL xb xc := LpS.same hlp (fun lq9 e9 f9 _ _ => hbk231 lq9 (LpO.be BdE.rfl hlo lq9 e9) (fun z => by have y9 := hlo lq9 e9; have v9 := Option.some.inj z; rw [← v9, hinn] at y9; exact absurd y9 (by decide)) f9) (fun z9 hz9 => ⟨hsx259 z9 hz9, hsx291 z9 hz9, hst293.2.2.1 z9 (by omega)⟩) (fun z9 h9 => ⟨⟨⟨hpdi.1 z9 ((h46 z9).mpr (Or.inl h9)), fun q9 => by have y9 := hgec z9 q9; have y8 := hlp.1 z9 h9; omega⟩, fun q9 => by have y9 := (ExJ.rng hex269 z9 q9).1; have y8 := hlp.1 z9 h9; omega⟩, fun q9 => by have y9 := hgeb z9 q9; have y8 := hlp.1 z9 h9; omega⟩) (fun z9 h9 => by have v9 := hlpi.1 z9 h9.1.1.1; omega) (by omega) hst293.2.2.2.2.2.2.1
      have hO : OKW G h0 a (upd (upd (upd (upd (upd (upd (upd (upd (upd (upd F 2 (nI sz)) 5 (nI (cs157 + 1))) 6 (nI rg166)) 7 (nI hd)) 8 (nI dp163)) 12 (nI vr)) 13 (wf30 &&& bsv)) 14 wt159) 15 wf160) 16 ls168) (updR (updR (updR R 2 (.ref pq)) 3 (.ref mq)) 4 (va_rf lp9)) Z (updA (updA (updA (updA B156 16 (upd ((B156 16)) cs157 6)) 17 (aim ((aim ((upd ((aim ((B156 17)) xc172 cs157)) cs157 (nI cs))) ex34 (cs157 + 1))) xb171 (cs157 + 1))) 18 (upd ((B156 18)) cs157 0)) 19 (upd ((B156 19)) cs157 (nI hd))) J K155.1 (fun q99 x99 => x99 = rep G a K155 q99) w := hO.to rfl
      obtain ⟨_, qr302, hqr303⟩ := hO.2.1 24 _ (sg_24 G h0 a _ _ _ _ _)
      refine pc_V0 (G := G) (As := [.int (nI vr), .int (nI hd)]) (rest := []) hx hb hml hown hq hE hX pX0_al hP hD hS hA hl.1 (B_endScope l G h0 a (upd (upd (upd (upd (upd (upd (upd (upd (upd (upd F 2 (nI sz)) 5 (nI (cs157 + 1))) 6 (nI rg166)) 7 (nI hd)) 8 (nI dp163)) 12 (nI vr)) 13 (wf30 &&& bsv)) 14 wt159) 15 wf160) 16 ls168) (updR (updR (updR R 2 (.ref pq)) 3 (.ref mq)) 4 (va_rf lp9)) Z (updA (updA (updA (updA B156 16 (upd ((B156 16)) cs157 6)) 17 (aim ((aim ((upd ((aim ((B156 17)) xc172 cs157)) cs157 (nI cs))) ex34 (cs157 + 1))) xb171 (cs157 + 1))) 18 (upd ((B156 18)) cs157 0)) 19 (upd ((B156 19)) cs157 (nI hd))) J K155.1 (fun q99 x99 => x99 = rep G a K155 q99) w (nI vr) (nI hd) hO) (gV pw_303 pw_304 pw_305 pw_63 pw_99) hV_X0_endScope qr302 0 hqr303 rfl rfl rfl (Nat.le_of_ble_eq_true rfl) dX0_loopStatement_209 ⟨(by show (1 + (rE (g 2 q4) - rS (g 2 q4))) + 0 ≤ ((rE (g 2 q) - rS (g 2 q)) + 1); omega), (by show (6 + (6 * (rE (g 2 q4) - rS (g 2 q4)))) + 0 ≤ (6 * (rE (g 2 q) - rS (g 2 q)) + 6); omega)⟩ ⟨(by show 2 + 1 ≤ (5 * n + 46); omega), (by show 8 + (3 + 11) + 60 ≤ (200 * n + 1120); omega)⟩ (fun v301 u299 H locs hw300 hP hD hS => ?_)
      obtain ⟨w, _⟩ := u299
      obtain ⟨hw300, hO⟩ := hw300
      obtain rfl : v301 = none := hw300
      have hO : OKP G h0 a (upd (upd (upd (upd (upd (upd (upd (upd (upd (upd F 2 (nI sz)) 5 (nI (cs157 + 1))) 6 (nI rg166)) 7 (nI hd)) 8 (nI dp163)) 12 (nI vr)) 13 (wf30 &&& bsv)) 14 wt159) 15 wf160) 16 ls168) (updR (updR (updR R 2 (.ref pq)) 3 (.ref mq)) 4 (va_rf lp9)) Z (updA (updA (updA (updA B156 16 (upd ((B156 16)) cs157 6)) 17 (aim ((aim ((upd ((aim ((B156 17)) xc172 cs157)) cs157 (nI cs))) ex34 (cs157 + 1))) xb171 (cs157 + 1))) 18 (upd ((B156 18)) cs157 0)) 19 (upd ((B156 19)) cs157 (nI hd))) J K155 w := hO.to rfl
      refine W.widen (k := (1 + (rE (g 2 q4) - rS (g 2 q4)))) (n := (6 + (6 * (rE (g 2 q4) - rS (g 2 q4))))) (by show (1 + (rE (g 2 q4) - rS (g 2 q4))) + 0 ≤ (1 + (rE (g 2 q4) - rS (g 2 q4))); omega) (by show (6 + (6 * (rE (g 2 q4) - rS (g 2 q4)))) + 0 ≤ (6 + (6 * (rE (g 2 q4) - rS (g 2 q4)))); omega) ?_
      refine W.eq (g2 := F0 m 212 ls []) rfl ?_
      obtain ⟨Ag304, hst305, hag306⟩ : ∃ A5 : Nat → AS, StW pb.1 pb.2.1 pb.2.2.1 pb.2.2.2 Ag A5 Q9 Q169 pd (pdm (pdm (pdm pd170 xc172) ex34) xb171) m9 dp163 lw cs (cs157 + 1) as9 (wf30 &&& bsv) hd hd sl sl gr gr167 (upd ((B156 16)) cs157 6) (aim ((aim ((upd ((aim ((B156 17)) xc172 cs157)) cs157 (nI cs))) ex34 (cs157 + 1))) xb171 (cs157 + 1)) (upd ((B156 18)) cs157 0) (upd ((B156 19)) cs157 (nI hd)) ([] : List Nat) ∧ ∀ x9 : Nat, x9 < (cs157 + 1) → A5 x9 = Ag292 x9 := StW.scope2 hstL (Or.inl (by omega)) (by omega) hwfa (by omega)
      have hlp307 : LpS K155 (upd ((B156 16)) cs157 6) (aim ((aim ((upd ((aim ((B156 17)) xc172 cs157)) cs157 (nI cs))) ex34 (cs157 + 1))) xb171 (cs157 + 1)) Ag304 (pdm (pdm (pdm pd170 xc172) ex34) xb171) lp9 lw (cs157 + 1) hd sl hdL slL xb xc := LpS.same (LpS.to hlpL hlp) (fun _ _ _ _ _ => rfl) (fun z9 hz9 => ⟨rfl, rfl, hag306 z9 hz9⟩) (fun _ h9 => h9) hlpL.1 (Nat.le_refl _) ⟨Nat.le_refl _, fun _ _ => rfl⟩
      have hen308 : EnV (B156 26) (B156 27) nd vr hd c0 sl := EnV.back hen hvs224
      refine W_size (fun hz1 hz2 => ?_)
      refine vx_ret ?_
      have hz309 : SmW B (updA (updA (updA (updA B156 16 (upd ((B156 16)) cs157 6)) 17 (aim ((aim ((upd ((aim ((B156 17)) xc172 cs157)) cs157 (nI cs))) ex34 (cs157 + 1))) xb171 (cs157 + 1))) 18 (upd ((B156 18)) cs157 0)) 19 (upd ((B156 19)) cs157 (nI hd))) cs := (fun x9 hx9 => ⟨hsw255 x9 hx9, hsw290 x9 hx9, hsw257 x9 hx9, hsw258 x9 hx9⟩)
      have hz310 : BdE K K155 := hbe210
      have hz311 : BeF K K155 := hbf221
      have hz312 : BeL K K155 lp9 := hbl223
      have hz313 : Bth B (updA (updA (updA (updA B156 16 (upd ((B156 16)) cs157 6)) 17 (aim ((aim ((upd ((aim ((B156 17)) xc172 cs157)) cs157 (nI cs))) ex34 (cs157 + 1))) xb171 (cs157 + 1))) 18 (upd ((B156 18)) cs157 0)) 19 (upd ((B156 19)) cs157 (nI hd))) := (show Thx (upd (upd (upd (upd (upd (upd (upd (upd F 2 (nI sz)) 5 (nI cs)) 6 (nI rg)) 7 (nI hd)) 8 (nI dp)) 12 (nI vr)) 13 as9) 16 ls9) (upd (upd (upd (upd (upd (upd (upd (upd (upd (upd (upd (upd (upd (upd (upd F 2 (nI sz)) 5 (nI cs)) 6 (nI rg)) 7 (nI hd)) 8 (nI dp)) 12 (nI vr)) 13 as9) 16 ls9) 5 (nI (cs157 + 1))) 6 (nI rg166)) 8 (nI dp163)) 13 (wf30 &&& bsv)) 14 wt159) 15 wf160) 16 ls168) B (updA (updA (updA (updA B156 16 (upd ((B156 16)) cs157 6)) 17 (aim ((aim ((upd ((aim ((B156 17)) xc172 cs157)) cs157 (nI cs))) ex34 (cs157 + 1))) xb171 (cs157 + 1))) 18 (upd ((B156 18)) cs157 0)) 19 (upd ((B156 19)) cs157 (nI hd))) from (Thx.b (Thx.b8 (Thx.b (Thx.b (Thx.f (Thx.f (Thx.f (Thx.f (Thx.f (Thx.f (Thx.f (Bth.thx hbb211) (by omega)) (by omega)) (by omega)) (by omega)) (by omega)) (by omega)) (by omega)) (by omega) (by decide)) (by omega) (by decide)) hng266) (by omega) (by decide))).2
      have hz314 : BtR B (updA (updA (updA (updA B156 16 (upd ((B156 16)) cs157 6)) 17 (aim ((aim ((upd ((aim ((B156 17)) xc172 cs157)) cs157 (nI cs))) ex34 (cs157 + 1))) xb171 (cs157 + 1))) 18 (upd ((B156 18)) cs157 0)) 19 (upd ((B156 19)) cs157 (nI hd))) := (BtR.up (BtR.up (BtR.up (BtR.up hbr222 (by omega)) (by omega)) (by omega)) (by omega))
      have hz315 : cs ≤ (cs157 + 1) ∧ (cs157 + 1) + 1 ≤ cs + 2 * tlE g q := (by omega)
      have hz316 : dp ≤ dp163 ∧ dp163 ≤ 71 := (by omega)
      have hz317 : AsO (wf30 &&& bsv) := hao284
      have hz318 : VrS B (updA (updA (updA (updA B156 16 (upd ((B156 16)) cs157 6)) 17 (aim ((aim ((upd ((aim ((B156 17)) xc172 cs157)) cs157 (nI cs))) ex34 (cs157 + 1))) xb171 (cs157 + 1))) 18 (upd ((B156 18)) cs157 0)) 19 (upd ((B156 19)) cs157 (nI hd))) vr := hvs224
      have hz319 : gr ≤ gr167 ∧ rg166 ≤ 625 ∧ rg166 ≤ gr167 ∧ (rg166 = 625 ∨ rg166 = gr167) := (by omega)
      have hz320 : EnV ((updA (updA (updA (updA B156 16 (upd ((B156 16)) cs157 6)) 17 (aim ((aim ((upd ((aim ((B156 17)) xc172 cs157)) cs157 (nI cs))) ex34 (cs157 + 1))) xb171 (cs157 + 1))) 18 (upd ((B156 18)) cs157 0)) 19 (upd ((B156 19)) cs157 (nI hd))) 26) ((updA (updA (updA (updA B156 16 (upd ((B156 16)) cs157 6)) 17 (aim ((aim ((upd ((aim ((B156 17)) xc172 cs157)) cs157 (nI cs))) ex34 (cs157 + 1))) xb171 (cs157 + 1))) 18 (upd ((B156 18)) cs157 0)) 19 (upd ((B156 19)) cs157 (nI hd))) 27) nd vr hd c0 sl := hen308
      have hz321 : StW pb.1 pb.2.1 pb.2.2.1 pb.2.2.2 Ag Ag304 Q9 Q169 pd (pdm (pdm (pdm pd170 xc172) ex34) xb171) m9 dp163 lw cs (cs157 + 1) as9 (wf30 &&& bsv) hd hd sl sl gr gr167 ((updA (updA (updA (updA B156 16 (upd ((B156 16)) cs157 6)) 17 (aim ((aim ((upd ((aim ((B156 17)) xc172 cs157)) cs157 (nI cs))) ex34 (cs157 + 1))) xb171 (cs157 + 1))) 18 (upd ((B156 18)) cs157 0)) 19 (upd ((B156 19)) cs157 (nI hd))) 16) ((updA (updA (updA (updA B156 16 (upd ((B156 16)) cs157 6)) 17 (aim ((aim ((upd ((aim ((B156 17)) xc172 cs157)) cs157 (nI cs))) ex34 (cs157 + 1))) xb171 (cs157 + 1))) 18 (upd ((B156 18)) cs157 0)) 19 (upd ((B156 19)) cs157 (nI hd))) 17) ((updA (updA (updA (updA B156 16 (upd ((B156 16)) cs157 6)) 17 (aim ((aim ((upd ((aim ((B156 17)) xc172 cs157)) cs157 (nI cs))) ex34 (cs157 + 1))) xb171 (cs157 + 1))) 18 (upd ((B156 18)) cs157 0)) 19 (upd ((B156 19)) cs157 (nI hd))) 18) ((updA (updA (updA (updA B156 16 (upd ((B156 16)) cs157 6)) 17 (aim ((aim ((upd ((aim ((B156 17)) xc172 cs157)) cs157 (nI cs))) ex34 (cs157 + 1))) xb171 (cs157 + 1))) 18 (upd ((B156 18)) cs157 0)) 19 (upd ((B156 19)) cs157 (nI hd))) 19) [] := hst305
      have hz322 : LpS K155 ((updA (updA (updA (updA B156 16 (upd ((B156 16)) cs157 6)) 17 (aim ((aim ((upd ((aim ((B156 17)) xc172 cs157)) cs157 (nI cs))) ex34 (cs157 + 1))) xb171 (cs157 + 1))) 18 (upd ((B156 18)) cs157 0)) 19 (upd ((B156 19)) cs157 (nI hd))) 16) ((updA (updA (updA (updA B156 16 (upd ((B156 16)) cs157 6)) 17 (aim ((aim ((upd ((aim ((B156 17)) xc172 cs157)) cs157 (nI cs))) ex34 (cs157 + 1))) xb171 (cs157 + 1))) 18 (upd ((B156 18)) cs157 0)) 19 (upd ((B156 19)) cs157 (nI hd))) 17) Ag304 (pdm (pdm (pdm pd170 xc172) ex34) xb171) lp9 lw (cs157 + 1) hd sl hdL slL xb xc := hlp307
      have hz323 : PdS pd (pdm (pdm (pdm pd170 xc172) ex34) xb171) xb xb xc xc [] cs (cs157 + 1) := hpdL
      have hz324 : RgQx (updA (updA (updA (updA B156 16 (upd ((B156 16)) cs157 6)) 17 (aim ((aim ((upd ((aim ((B156 17)) xc172 cs157)) cs157 (nI cs))) ex34 (cs157 + 1))) xb171 (cs157 + 1))) 18 (upd ((B156 18)) cs157 0)) 19 (upd ((B156 19)) cs157 (nI hd))) Q169 gr167 nd := h191
      have hz325 : LpR K155 lp9 rL := hlr233
      have hO : OKP G h0 a (upd (upd (upd (upd (upd (upd (upd (upd (upd (upd F 2 (nI sz)) 5 (nI (cs157 + 1))) 6 (nI rg166)) 7 (nI hd)) 8 (nI dp163)) 12 (nI vr)) 13 (wf30 &&& bsv)) 14 wt159) 15 wf160) 16 ls168) (updR (updR (updR R 2 (.ref pq)) 3 (.ref mq)) 4 (va_rf lp9)) Z (updA (updA (updA (updA B156 16 (upd ((B156 16)) cs157 6)) 17 (aim ((aim ((upd ((aim ((B156 17)) xc172 cs157)) cs157 (nI cs))) ex34 (cs157 + 1))) xb171 (cs157 + 1))) 18 (upd ((B156 18)) cs157 0)) 19 (upd ((B156 19)) cs157 (nI hd))) J K155 w := hO.to rfl
      refine W.widen (k := ((rE (g 2 q) - rS (g 2 q)) + 1)) (n := (6 * (rE (g 2 q) - rS (g 2 q)) + 6)) (by omega) (by omega) ?_
      have hzz1 : H.size ≤ s.heap.size + ((rE (g 2 q) - rS (g 2 q))) := (by have z : (1 + (rE (g 2 q4) - rS (g 2 q4))) ≤ (rE (g 2 q) - rS (g 2 q)) := (by omega); omega)
      have hzz2 : hSl H ≤ hSl s.heap + ((6 * (rE (g 2 q) - rS (g 2 q)))) := (by have z : (6 + (6 * (rE (g 2 q4) - rS (g 2 q4)))) ≤ (6 * (rE (g 2 q) - rS (g 2 q))) := (by omega); omega)
      exact W.vret hx hb hr (fun t99 ht99 hW99 => ⟨⟨_, (w, (K155, (updA (updA (updA (updA B156 16 (upd ((B156 16)) cs157 6)) 17 (aim ((aim ((upd ((aim ((B156 17)) xc172 cs157)) cs157 (nI cs))) ex34 (cs157 + 1))) xb171 (cs157 + 1))) 18 (upd ((B156 18)) cs157 0)) 19 (upd ((B156 19)) cs157 (nI hd))), (cs157 + 1), (wf30 &&& bsv), wt159, wf160, dp163, Ag304, rg166, gr167, ls168, Q169, (pdm (pdm (pdm pd170 xc172) ex34) xb171), xb, xc)), rfl, ⟨rfl, hz309, hz310, hz311, hz312, hz313, hz314, hz315, hz316, hz317, hz318, hz319, hz320, hz321, hz322, hz323, hz324, hz325, hO⟩, by rw [ht99]; exact hP, hD, by rw [ht99]; exact hzz1, by rw [ht99]; exact hzz2⟩, hS.F ht99⟩) hS.2.2 dX0_loopStatement_212
    · skip
      rw [hos2] at hsd3
      have hsd4 : 0 + tO g ob + tlE g z3 + tlE g q4 + 3 ≤ tlE g q := hsd3
      have hz2 := hnd.2.1 2 z3 (by decide) hos2
      have hz2T := hz2.1
      have hz2v : 1 ≤ g 0 z3 ∧ g 0 z3 + 1 ≤ n := ⟨hz2.2.1, by have z := hz2.2.2.1; omega⟩
      have hsdC := hsdc z3 hos2
      refine c_get (v := .int (nI vr)) (C := RX0) (Tc := TX0) (N := 13) (ci := 0) hx hb hq pin_wsX00 hown hE hP hO 24 (sg_24 G h0 a _ _ _ _ _) rfl 5 (by decide) (hq _ pw_42) (fun _ h9 => h9) rfl dX0_loopStatement_1 ?_
      refine lv_istore_n (lv' := [(2, .int (nI vr)), (0, .ref (a 4)), (1, .ref q)]) hx hb dX0_loopStatement_4 rfl hl (by decide) rfl (fun ls hl => ?_)
      refine lv_aload_n hx hb dX0_loopStatement_5 rfl (lv_at hl 1 rfl) ?_
      refine c_get (v := .ref (a 2)) (C := RX0) (Tc := TX0) (N := 13) (ci := 0) hx hb hq pin_wsX00 hown hE hP hO 24 (sg_24 G h0 a _ _ _ _ _) rfl 1 (by decide) (hq _ pw_5) (fun _ h9 => h9) rfl dX0_loopStatement_6 ?_
      refine c_get (v := .int (nI hd)) (C := RX1) (Tc := TX1) (N := 13) (ci := 1) hx hb hq pin_wsX10 hown hE hP hO 13 (sg_13 G h0 a _ _ _ _ _) rfl 11 (by decide) (hq _ pw_54) (fun _ h9 => h9) rfl dX0_loopStatement_9 ?_
      refine lv_istore_n (lv' := [(3, .int (nI hd)), (2, .int (nI vr)), (0, .ref (a 4)), (1, .ref q)]) hx hb dX0_loopStatement_12 rfl hl (by decide) rfl (fun ls hl => ?_)
      refine lv_aload_n hx hb dX0_loopStatement_13 rfl (lv_at hl 3 rfl) ?_
      refine p_get (v := .null) (C := RX7) (Tc := TX7) (N := 11) (ci := 13) hx hb hq pin_wsX70 hown hE hP hO (by rw [hqT]; decide) (rep_1 hqT) rfl 6 (by decide) (hq _ pw_180) (fun _ h9 => h9) (congrArg (fun z => some (va_rf z)) hos0) dX0_loopStatement_14 ?_
      refine lv_ifnullN (tgt := 29) hx hb dX0_loopStatement_17 (by decide) ?_
      have hwfF : WfA (1, hd, sl, ([] : List Nat)) := hst0.1.2.2.1
      have hsnF := hst0.1.2.2.2.1
      have hstF : StW pb.1 pb.2.1 pb.2.2.1 pb.2.2.2 Ag Ag Q9 Q9 pd pd m9 dp lw cs cs as9 as9 hd hd sl sl gr gr (B 16) (B 17) (B 18) (B 19) ([] : List Nat) := StW.nil hst0.1
      have hbkF : BeL K K none := BeL.rfl
      have hbjF : BdE K K := BdE.rfl
      refine lv_aload_n hx hb dX0_loopStatement_29 rfl (lv_at hl 2 rfl) ?_
      refine c_get (v := .ref (a 2)) (C := RX0) (Tc := TX0) (N := 13) (ci := 0) hx hb hq pin_wsX00 hown hE hP hO 24 (sg_24 G h0 a _ _ _ _ _) rfl 1 (by decide) (hq _ pw_5) (fun _ h9 => h9) rfl dX0_loopStatement_30 ?_
      refine c_get (v := .int (nI cs)) (C := RX1) (Tc := TX1) (N := 13) (ci := 1) hx hb hq pin_wsX10 hown hE hP hO 13 (sg_13 G h0 a _ _ _ _ _) rfl 4 (by decide) (hq _ pw_75) (fun _ h9 => h9) rfl dX0_loopStatement_33 ?_
      refine lv_istore (lv' := [(4, .int (nI cs)), (3, .int (nI hd)), (2, .int (nI vr)), (0, .ref (a 4)), (1, .ref q)]) hx hb dX0_loopStatement_36 hl (by decide) rfl (fun ls hl => ?_)
      refine lv_aload_n hx hb dX0_loopStatement_38 rfl (lv_at hl 3 rfl) ?_
      refine c_get (v := .ref (a 2)) (C := RX0) (Tc := TX0) (N := 13) (ci := 0) hx hb hq pin_wsX00 hown hE hP hO 24 (sg_24 G h0 a _ _ _ _ _) rfl 1 (by decide) (hq _ pw_5) (fun _ h9 => h9) rfl dX0_loopStatement_39 ?_
      refine lv_iconst (v := 0) hx hb dX0_loopStatement_42 (by decide) ?_
      refine lv_iconst (v := 0) hx hb dX0_loopStatement_43 (by decide) ?_
      refine lv_iconst (v := 0) hx hb dX0_loopStatement_44 (by decide) ?_
      have hO : OKW G h0 a (upd (upd (upd (upd (upd (upd (upd (upd (upd (upd F 2 (nI sz)) 5 (nI cs)) 6 (nI rg)) 7 (nI hd)) 8 (nI dp)) 12 (nI vr)) 13 as9) 16 ls9) 5 (nI cs)) 7 (nI hd)) (updR (updR (updR R 2 (.ref pq)) 3 (.ref mq)) 4 (va_rf lp9)) Z B J K.1 (fun q99 x99 => x99 = rep G a K q99) w := hO.to rfl
      obtain ⟨_, qr329, hqr330⟩ := hO.2.1 13 _ (sg_13 G h0 a _ _ _ _ _)
      refine pc_V0 (G := G) (As := [.int 0, .int 0, .int 0]) (rest := []) hx hb hml hown hq hE hX pX0_al hP hD hS hA hl.1 (Y_emit l G h0 a (upd (upd (upd (upd (upd (upd (upd (upd F 2 (nI sz)) 5 (nI cs)) 6 (nI rg)) 7 (nI hd)) 8 (nI dp)) 12 (nI vr)) 13 as9) 16 ls9) (updR (updR (updR R 2 (.ref pq)) 3 (.ref mq)) 4 (va_rf lp9)) Z B J K.1 (fun q99 x99 => x99 = rep G a K q99) w 0 0 0 cs hd (by omega) hO) (gV pw_129 pw_130 pw_131 pw_70 pw_115) hV_X1_emit qr329 1 hqr330 rfl rfl rfl (Nat.le_of_ble_eq_true rfl) dX0_loopStatement_45 ⟨(by show 0 + 0 ≤ ((rE (g 2 q) - rS (g 2 q)) + 1); omega), (by show 0 + 0 ≤ (6 * (rE (g 2 q) - rS (g 2 q)) + 6); omega)⟩ ⟨(by show 2 + 1 ≤ (5 * n + 46); omega), (by show 8 + (4 + 11) + 60 ≤ (200 * n + 1120); omega)⟩ (fun v328 u326 H locs hw327 hP hD hS => ?_)
      obtain ⟨w, _⟩ := u326
      obtain ⟨hw327, hO⟩ := hw327
      obtain rfl : v328 = none := hw327
      have hO : OKP G h0 a (upd (upd (upd (upd (upd (upd (upd (upd F 2 (nI sz)) 5 (nI (cs + 1))) 6 (nI rg)) 7 (nI hd)) 8 (nI dp)) 12 (nI vr)) 13 as9) 16 ls9) (updR (updR (updR R 2 (.ref pq)) 3 (.ref mq)) 4 (va_rf lp9)) Z (updA (updA (updA (updA B 16 (upd ((B 16)) cs 0)) 17 (upd ((B 17)) cs 0)) 18 (upd ((B 18)) cs 0)) 19 (upd ((B 19)) cs (nI hd))) J K w := hO.to rfl
      refine W.widen (k := 0) (n := 0) (Nat.le_of_ble_eq_true rfl) (Nat.le_of_ble_eq_true rfl) ?_
      refine W.eq (g2 := F0 m 48 ls []) rfl ?_
      have hsw331 : ∀ x9 : Nat, x9 < cs → (upd ((B 16)) cs 0) x9 = B 16 x9 := fun x9 hx9 => (if_neg (by omega)).trans ((fun _ _ => rfl) x9 hx9)
      have hsw332 : ∀ x9 : Nat, x9 < cs → (upd ((B 17)) cs 0) x9 = B 17 x9 := fun x9 hx9 => (if_neg (by omega)).trans ((fun _ _ => rfl) x9 hx9)
      have hsw333 : ∀ x9 : Nat, x9 < cs → (upd ((B 18)) cs 0) x9 = B 18 x9 := fun x9 hx9 => (if_neg (by omega)).trans ((fun _ _ => rfl) x9 hx9)
      have hsw334 : ∀ x9 : Nat, x9 < cs → (upd ((B 19)) cs (nI hd)) x9 = B 19 x9 := fun x9 hx9 => (if_neg (by omega)).trans ((fun _ _ => rfl) x9 hx9)
      have hsx335 : ∀ x9 : Nat, x9 < cs → (upd ((B 16)) cs 0) x9 = (B 16) x9 := fun x9 hx9 => (if_neg (by omega)).trans ((fun _ _ => rfl) x9 hx9)
      have hsx336 : ∀ x9 : Nat, x9 < cs → (upd ((B 17)) cs 0) x9 = (B 17) x9 := fun x9 hx9 => (if_neg (by omega)).trans ((fun _ _ => rfl) x9 hx9)
      have hsx337 : ∀ x9 : Nat, x9 < cs → (upd ((B 18)) cs 0) x9 = (B 18) x9 := fun x9 hx9 => (if_neg (by omega)).trans ((fun _ _ => rfl) x9 hx9)
      have hsx338 : ∀ x9 : Nat, x9 < cs → (upd ((B 19)) cs (nI hd)) x9 = (B 19) x9 := fun x9 hx9 => (if_neg (by omega)).trans ((fun _ _ => rfl) x9 hx9)
      obtain ⟨Ag339, hst340, hag341⟩ : ∃ A5 : Nat → AS, StW pb.1 pb.2.1 pb.2.2.1 pb.2.2.2 Ag A5 Q9 Q9 pd pd m9 dp lw cs (cs + 1) as9 as9 hd hd sl sl gr gr (upd ((B 16)) cs 0) (upd ((B 17)) cs 0) (upd ((B 18)) cs 0) (upd ((B 19)) cs (nI hd)) ([] : List Nat) ∧ ∀ x9 : Nat, x9 ≤ cs → A5 x9 = Ag x9 := ⟨(upS Ag (cs + 1) (rcA as9, hd, sl, ([] : List Nat))), StW.fuel hstF, fun x9 hx9 => upS_ne (by omega)⟩
      have hng342 : Nng (upd ((B 18)) cs 0) := Nng.set hng (k := 0) (by omega)
      have hj343 : (upd ((B 16)) cs 0) cs = (nI 0) := if_pos rfl
      have hj344 : Ag339 cs = (rcA as9, hd, sl, ([] : List Nat)) := (hag341 cs (Nat.le_refl _)).trans hstF.1.1.2
      refine lv_aload_n hx hb dX0_loopStatement_48 rfl (lv_at hl 3 rfl) ?_
      refine lv_aload_n hx hb dX0_loopStatement_49 rfl (lv_at hl 4 rfl) ?_
      refine p_get (v := va_rf ob) (C := RX7) (Tc := TX7) (N := 11) (ci := 13) hx hb hq pin_wsX70 hown hE hP hO (by rw [hqT]; decide) (rep_1 hqT) rfl 7 (by decide) (hq _ pw_169) (fun _ h9 => h9) (congrArg (fun z => some (va_rf z)) hob) dX0_loopStatement_50 ?_
      have hO : OKP G h0 a (upd (upd (upd (upd (upd (upd (upd (upd (upd (upd (upd (upd (upd (upd (upd (upd (upd F 2 (nI sz)) 5 (nI cs)) 6 (nI rg)) 7 (nI hd)) 8 (nI dp)) 12 (nI vr)) 13 as9) 16 ls9) 5 (nI (cs + 1))) 2 (nI sz)) 5 (nI (cs + 1))) 6 (nI rg)) 7 (nI hd)) 8 (nI dp)) 12 (nI vr)) 13 as9) 16 ls9) (updR (updR (updR (updR (updR (updR R 2 (.ref pq)) 3 (.ref mq)) 4 (va_rf lp9)) 2 (.ref pq)) 3 (.ref mq)) 4 (va_rf lp9)) Z (updA (updA (updA (updA B 16 (upd ((B 16)) cs 0)) 17 (upd ((B 17)) cs 0)) 18 (upd ((B 18)) cs 0)) 19 (upd ((B 19)) cs (nI hd))) J K w := hO.to rfl
      obtain ⟨_, qr348, hqr349⟩ := hO.2.1 24 _ (sg_24 G h0 a _ _ _ _ _)
      refine pn_V0 (G := G) (As := [va_rf ob]) (rest := []) hx hb hml hown hq hE hX pX0_al hP hD hS hA hl.1 (Y_loopCondO l G h0 a (upd (upd (upd (upd (upd (upd (upd (upd (upd F 2 (nI sz)) 5 (nI cs)) 6 (nI rg)) 7 (nI hd)) 8 (nI dp)) 12 (nI vr)) 13 as9) 16 ls9) 5 (nI (cs + 1))) (updR (updR (updR R 2 (.ref pq)) 3 (.ref mq)) 4 (va_rf lp9)) Z (updA (updA (updA (updA B 16 (upd ((B 16)) cs 0)) 17 (upd ((B 17)) cs 0)) 18 (upd ((B 18)) cs 0)) 19 (upd ((B 19)) cs (nI hd))) J K w pq dr ml nd nm cp it s9 q mq (cs + 1) vr sz n ob (tO g ob) hd dp rg ls9 lp9 g rk pb Ag339 Q9 pd sl m9 lw c0 rt gr as9 (by omega) (BdE.wp BdE.rfl hwp) (BdE.pt BdE.rfl hwp hps) (BdE.rko BdE.rfl hrk) (by omega) (by omega) hng342 hmq hqT hqL hrt hrv (by omega) (by omega) (LpO.be BdE.rfl hlo) (EkA.be BdE.rfl ((BtR.up (BtR.up (BtR.up (BtR.up BtR.rfl (by omega)) (by omega)) (by omega)) (by omega)) 7 (by decide)) ((BtR.up (BtR.up (BtR.up (BtR.up BtR.rfl (by omega)) (by omega)) (by omega)) (by omega)) 11 (by decide)) hek) (OwC.be BdE.rfl hmq hdr0 hcO) (NaB.be BdE.rfl BeF.rfl hwp hps.2.1 hdr0 ((BtR.up (BtR.up (BtR.up (BtR.up BtR.rfl (by omega)) (by omega)) (by omega)) (by omega)) 11 (by decide)) hna) hen hao hst340.1 (KvO.of ((BdE.wp BdE.rfl hwp).1 q hqT hqL.1) (by decide) hob hqL.2) (fun x9 hx9 => ⟨hsdb x9 hx9, by rw [hx9]; exact Nat.le_refl _⟩) (by omega) hO hl0) (gV pw_318 pw_319 pw_320 pw_63 pw_271) hV_X0_loopCondition qr348 0 hqr349 rfl rfl rfl (Nat.le_of_ble_eq_true rfl) dX0_loopStatement_53 ⟨(by show 0 + 1 ≤ ((rE (g 2 q) - rS (g 2 q)) + 1); omega), (by show 0 + 6 ≤ (6 * (rE (g 2 q) - rS (g 2 q)) + 6); omega)⟩ ⟨(by show (5 * n + 35) + 1 ≤ (5 * n + 46); omega), (by show 8 + (2 + 11) + (200 * n + 640) ≤ (200 * n + 1120); omega)⟩ (fun v347 u345 H locs hw346 hP hD hS => ?_) (fun ux ce9 q9 H9 locs9 hux hP9 hD9 hS9 hce hcv hcl => pb_out ux (ThQ.up (Thx.same (Thx.same (Thx.same (Thx.same (Thx.same (Thx.same (Thx.same (Thx.same (Thx.b (Thx.b8 (Thx.b (Thx.b (Thx.f Thx.rfl (by omega)) (by omega) (by decide)) (by omega) (by decide)) hng342) (by omega) (by decide)) rfl) rfl) rfl) rfl) rfl) rfl) rfl) rfl) (show RhX (updR (updR (updR R 2 (.ref pq)) 3 (.ref mq)) 4 (va_rf lp9)) (updR (updR (updR (updR (updR (updR R 2 (.ref pq)) 3 (.ref mq)) 4 (va_rf lp9)) 2 (.ref pq)) 3 (.ref mq)) 4 (va_rf lp9)) from fun k9 hk9 => by unfold updR; simp only [show ¬ k9 = 1 by omega, show ¬ k9 = 2 by omega, show ¬ k9 = 3 by omega, show ¬ k9 = 4 by omega, if_false]) hux) hnt hlocks hce hcv hcl hP9 hD9 hS9 (by show 0 + 1 ≤ ((rE (g 2 q) - rS (g 2 q)) + 1); omega) (by show 0 + 6 ≤ (6 * (rE (g 2 q) - rS (g 2 q)) + 6); omega))
      obtain ⟨w, K350, B351, cs352, as353, wt354, wf355, x356, Ag357, pd358, ex359⟩ := u345
      obtain ⟨hw346, h360, h361, h362, h363, h364, h365, h366, h367, h368, h369, h370, h371, hO⟩ := hw346
      have h360 : SmW (updA (updA (updA (updA B 16 (upd ((B 16)) cs 0)) 17 (upd ((B 17)) cs 0)) 18 (upd ((B 18)) cs 0)) 19 (upd ((B 19)) cs (nI hd))) B351 (cs + 1) := h360
      have h361 : BdE K K350 := h361
      have h362 : BeF K K350 := h362
      have h363 : BeL K K350 none := h363
      have h364 : Bth (updA (updA (updA (updA B 16 (upd ((B 16)) cs 0)) 17 (upd ((B 17)) cs 0)) 18 (upd ((B 18)) cs 0)) 19 (upd ((B 19)) cs (nI hd))) B351 := h364
      have h365 : BeR (updA (updA (updA (updA B 16 (upd ((B 16)) cs 0)) 17 (upd ((B 17)) cs 0)) 18 (upd ((B 18)) cs 0)) 19 (upd ((B 19)) cs (nI hd))) B351 := h365
      have h366 : (cs + 1) ≤ cs352 ∧ cs352 ≤ (cs + 1) + 2 * (tO g ob) + 1 := h366
      have h367 : AsO as353 ∧ AsO wt354 ∧ AsO wf355 := h367
      have h368 : ¬ wf355 = -1 → ¬ as9 = -1 := h368
      have h369 : StW pb.1 pb.2.1 pb.2.2.1 pb.2.2.2 Ag339 Ag357 Q9 Q9 pd pd358 m9 dp lw (cs + 1) cs352 as9 wt354 hd hd sl sl gr gr (B351 16) (B351 17) (B351 18) (B351 19) [] := h369
      have h370 : ExJ (B351 16) (B351 17) Ag357 x356 ex359 lw (cs + 1) cs352 hd sl wt354 wf355 := h370
      have h371 : ∀ z : Nat, pd358 z ↔ pd z ∨ z ∈ ex359 := h371
      obtain rfl : v347 = some (.int x356) := hw346
      have hf372 : K350.1 pq = 7 := (BdE.T h361 hp1 (by decide))
      have hf373 : K350.2.2.1 18 pq = some (a 1) := (BdE.C h361 (by rw [hp1]; decide) 18).trans hp2
      have hf374 : K350.2.2.1 14 pq = some dr := (BdE.C h361 (by rw [hp1]; decide) 14).trans hp3
      have hf375 : K350.1 dr = 8 := (BdE.T h361 hp4 (by decide))
      have hf376 : K350.2.2.1 15 pq = some ml := (BdE.C h361 (by rw [hp1]; decide) 15).trans hp5
      have hf377 : K350.1 ml = 5 := (BdE.T h361 hp6 (by decide))
      have hf378 : K350.2.1 24 pq = (nI nd) := (BdE.I h361 (by rw [hp1]; decide) (by decide) (by decide)).trans hp8
      have hf379 : K350.1 q = 1 := (BdE.T h361 hqT (by decide))
      have hf380 : K350.1 mq = 3 := (BdE.T h361 hmq (by decide))
      have hf381 : K350.2.1 10 mq = (nI rt) := (BdE.I h361 (by rw [hmq]; decide) (by decide) (by decide)).trans hrt
      have hf382 : K350.2.2.1 3 q = some q4 := (BdE.C h361 (by rw [hqT]; decide) 3).trans hc3
      have hf383 : K350.1 q4 = 1 := (BdE.T h361 ht3 (by decide))
      have hf384 : K350.2.2.1 1 q = ob := (BdE.C h361 (by rw [hqT]; decide) 1).trans hob
      have hf385 : K350.2.2.1 0 q = none := (BdE.C h361 (by rw [hqT]; decide) 0).trans hos0
      have hf386 : K350.2.2.1 2 q = some z3 := (BdE.C h361 (by rw [hqT]; decide) 2).trans hos2
      have hf387 : K350.1 z3 = 1 := (BdE.T h361 hz2T (by decide))
      have hO : OKP G h0 a (upd (upd (upd (upd (upd (upd (upd (upd (upd (upd F 2 (nI sz)) 5 (nI cs352)) 6 (nI rg)) 7 (nI hd)) 8 (nI dp)) 12 (nI vr)) 13 as353) 14 wt354) 15 wf355) 16 ls9) (updR (updR (updR R 2 (.ref pq)) 3 (.ref mq)) 4 (va_rf lp9)) Z B351 J K350 w := hO.to rfl
      refine W.widen (k := 0) (n := 0) (by show 0 + 0 ≤ 0; omega) (by show 0 + 0 ≤ 0; omega) ?_
      refine W.eq (g2 := F0 m 56 ls [.int x356]) rfl ?_
      have hbe388 := BdE.trans BdE.rfl h361
      have hbb389 : Bth B B351 := Bth.trans (show Thx (upd (upd (upd (upd (upd (upd (upd (upd F 2 (nI sz)) 5 (nI cs)) 6 (nI rg)) 7 (nI hd)) 8 (nI dp)) 12 (nI vr)) 13 as9) 16 ls9) (upd (upd (upd (upd (upd (upd (upd (upd (upd F 2 (nI sz)) 5 (nI cs)) 6 (nI rg)) 7 (nI hd)) 8 (nI dp)) 12 (nI vr)) 13 as9) 16 ls9) 5 (nI (cs + 1))) B (updA (updA (updA (updA B 16 (upd ((B 16)) cs 0)) 17 (upd ((B 17)) cs 0)) 18 (upd ((B 18)) cs 0)) 19 (upd ((B 19)) cs (nI hd))) from (Thx.b (Thx.b8 (Thx.b (Thx.b (Thx.f Thx.rfl (by omega)) (by omega) (by decide)) (by omega) (by decide)) hng342) (by omega) (by decide))).2 h364
      have hng390 : Nng (B351 18) := h364.2 hng342
      have hsw391 : ∀ x9 : Nat, x9 < cs → (B351 16) x9 = B 16 x9 := fun x9 hx9 => ((h360 x9 (by omega)).1).trans (hsw331 x9 hx9)
      have hsw392 : ∀ x9 : Nat, x9 < cs → (B351 17) x9 = B 17 x9 := fun x9 hx9 => ((h360 x9 (by omega)).2.1).trans (hsw332 x9 hx9)
      have hsw393 : ∀ x9 : Nat, x9 < cs → (B351 18) x9 = B 18 x9 := fun x9 hx9 => ((h360 x9 (by omega)).2.2.1).trans (hsw333 x9 hx9)
      have hsw394 : ∀ x9 : Nat, x9 < cs → (B351 19) x9 = B 19 x9 := fun x9 hx9 => ((h360 x9 (by omega)).2.2.2).trans (hsw334 x9 hx9)
      have hsx395 : ∀ x9 : Nat, x9 < cs → (B351 16) x9 = (B 16) x9 := fun x9 hx9 => ((h360 x9 (by omega)).1).trans (hsx335 x9 hx9)
      have hsx396 : ∀ x9 : Nat, x9 < cs → (B351 17) x9 = (B 17) x9 := fun x9 hx9 => ((h360 x9 (by omega)).2.1).trans (hsx336 x9 hx9)
      have hsx397 : ∀ x9 : Nat, x9 < cs → (B351 18) x9 = (B 18) x9 := fun x9 hx9 => ((h360 x9 (by omega)).2.2.1).trans (hsx337 x9 hx9)
      have hsx398 : ∀ x9 : Nat, x9 < cs → (B351 19) x9 = (B 19) x9 := fun x9 hx9 => ((h360 x9 (by omega)).2.2.2).trans (hsx338 x9 hx9)
      have hbf399 := BeF.trans BeF.rfl h362 BdE.rfl
      have hbl401 : BeL K K350 lp9 := BeL.trans BeL.rfl (BeL.any h363) BdE.rfl
      have hbr400 : BtR B B351 := BtR.trans (BtR.up (BtR.up (BtR.up (BtR.up BtR.rfl (by omega)) (by omega)) (by omega)) (by omega)) (BeR.bt h365)
      have hvs402 : VrS B B351 vr := fun i9 hi9 => ⟨(congrFun (h365 26 (by decide)) i9).trans (VrS.rfl i9 hi9).1, (congrFun (h365 27 (by decide)) i9).trans (VrS.rfl i9 hi9).2⟩
      have hvF403 : VrS B B351 vr := fun i9 hi9 => ⟨(congrFun (h365 26 (by decide)) i9).trans (VrS.rfl i9 hi9).1, (congrFun (h365 27 (by decide)) i9).trans (VrS.rfl i9 hi9).2⟩
      have hen404 : EnV (B351 26) (B351 27) nd vr hd c0 sl := EnV.of (h365 26 (by decide)) (h365 27 (by decide)) hen
      have hrq405 : RgQx B351 Q9 gr nd := RgQx.ber hrq (h365 20 (by decide)) (h365 21 (by decide)) (h365 22 (by decide)) (h365 23 (by decide)) (h365 24 (by decide))
      have hst406 : StW pb.1 pb.2.1 pb.2.2.1 pb.2.2.2 Ag Ag357 Q9 Q9 pd pd358 m9 dp lw cs cs352 as9 wt354 hd hd sl sl gr gr (B351 16) (B351 17) (B351 18) (B351 19) ([] : List Nat) := StW.seq hst340 (Nat.le_refl _) (fun x9 hx9 => ⟨(h360 x9 hx9).1, (h360 x9 hx9).2.1⟩) h369
      have hj407 : (B351 16) cs = (nI 0) := ((h360 cs (by omega)).1).trans hj343
      have hj408 : Ag357 cs = (rcA as9, hd, sl, ([] : List Nat)) := (h369.2.2.1 cs (by omega)).trans hj344
      have hbk409 : BeL K K350 none := BeL.trans hbkF (BeL.any h363) hbjF
      have hbj410 : BdE K K350 := BdE.trans hbjF h361
      have hlr411 : LpR K350 lp9 rL := LpR.same hlr (fun lq9 e9 f9 _ _ => h363 lq9 (LpO.be BdE.rfl hlo lq9 e9) (fun z => by cases z) f9)
      refine lv_istore (lv' := [(5, .int x356), (4, .int (nI cs)), (3, .int (nI hd)), (2, .int (nI vr)), (0, .ref (a 4)), (1, .ref q)]) hx hb dX0_loopStatement_56 hl (by decide) rfl (fun ls hl => ?_)
      refine lv_aload_n hx hb dX0_loopStatement_58 rfl (lv_at hl 4 rfl) ?_
      refine c_get (v := .int wf355) (C := RX0) (Tc := TX0) (N := 13) (ci := 0) hx hb hq pin_wsX00 hown hE hP hO 24 (sg_24 G h0 a _ _ _ _ _) rfl 10 (by decide) (hq _ pw_157) (fun _ h9 => h9) rfl dX0_loopStatement_59 ?_
      refine lv_istore (lv' := [(6, .int wf355), (5, .int x356), (4, .int (nI cs)), (3, .int (nI hd)), (2, .int (nI vr)), (0, .ref (a 4)), (1, .ref q)]) hx hb dX0_loopStatement_62 hl (by decide) rfl (fun ls hl => ?_)
      refine lv_aload_n hx hb dX0_loopStatement_64 rfl (lv_at hl 5 rfl) ?_
      refine lv_aload_n hx hb dX0_loopStatement_65 rfl (lv_at hl 5 rfl) ?_
      refine c_get (v := .int wt354) (C := RX0) (Tc := TX0) (N := 13) (ci := 0) hx hb hq pin_wsX00 hown hE hP hO 24 (sg_24 G h0 a _ _ _ _ _) rfl 9 (by decide) (hq _ pw_156) (fun _ h9 => h9) rfl dX0_loopStatement_66 ?_
      refine c_put (v := .int wt354) (ty := .int) (C := RX0) (Tc := TX0) (N := 13) (ci := 0) hx hb hq pin_wsX00 tyX0 tyX0_ok nmX0 hown hE hP hD hS hO 24 (sg_24 G h0 a _ _ _ _ _) rfl 8 (by decide) (hq _ pw_55) (fun _ h9 => h9) rfl (by decide +kernel) rfl rfl (Nat.le_of_ble_eq_true rfl) (sf_13 G h0 a _ _ _ _ _ wt354) dX0_loopStatement_69 (fun H locs w hP hD hS hO => ?_)
      refine lv_aload_n hx hb dX0_loopStatement_72 rfl (lv_at hl 5 rfl) ?_
      refine p_new (s9 := 9) (C := RX4) (T := TX4) (N := 6) (ci := 11) (fs := [.null, .int 0, .int 0, .int 0, .int 0, .int 0]) hx hb hq pin_wsX40 tyX4 tyX4_ok hown (hq _ pw_313) (hq _ pw_314) (hq _ pw_315) hE hP hD hS hA hO rfl nw_X4 (by decide) (fun q => by rw [rep_9 (show (kN K350 q 9 0).1 q = 9 from if_pos rfl)]; unfold fsLoop kN; simp only [if_true]; rfl) (by show 0 + 1 ≤ ((rE (g 2 q) - rS (g 2 q)) + 1); omega) (by show 0 + 6 ≤ (6 * (rE (g 2 q) - rS (g 2 q)) + 6); omega) dX0_loopStatement_73 (fun q412 H w hq413 hP hD hS hO => ?_)
      have hf414 : (kN K350 q412 9 0).1 pq = 7 := (if_neg (fun z => by have z2 := hf372; rw [z, hq413] at z2; exact absurd z2 (by decide))).trans hf372
      have hf415 : (kN K350 q412 9 0).2.2.1 18 pq = some (a 1) := (if_neg (fun z => by have z2 := hf372; rw [z, hq413] at z2; exact absurd z2 (by decide))).trans hf373
      have hf416 : (kN K350 q412 9 0).2.2.1 14 pq = some dr := (if_neg (fun z => by have z2 := hf372; rw [z, hq413] at z2; exact absurd z2 (by decide))).trans hf374
      have hf417 : (kN K350 q412 9 0).1 dr = 8 := (if_neg (fun z => by have z2 := hf375; rw [z, hq413] at z2; exact absurd z2 (by decide))).trans hf375
      have hf418 : (kN K350 q412 9 0).2.2.1 15 pq = some ml := (if_neg (fun z => by have z2 := hf372; rw [z, hq413] at z2; exact absurd z2 (by decide))).trans hf376
      have hf419 : (kN K350 q412 9 0).1 ml = 5 := (if_neg (fun z => by have z2 := hf377; rw [z, hq413] at z2; exact absurd z2 (by decide))).trans hf377
      have hf420 : (kN K350 q412 9 0).2.1 24 pq = (nI nd) := (if_neg (fun z => by have z2 := hf372; rw [z, hq413] at z2; exact absurd z2 (by decide))).trans hf378
      have hf421 : (kN K350 q412 9 0).1 q = 1 := (if_neg (fun z => by have z2 := hf379; rw [z, hq413] at z2; exact absurd z2 (by decide))).trans hf379
      have hf422 : (kN K350 q412 9 0).1 mq = 3 := (if_neg (fun z => by have z2 := hf380; rw [z, hq413] at z2; exact absurd z2 (by decide))).trans hf380
      have hf423 : (kN K350 q412 9 0).2.1 10 mq = (nI rt) := (if_neg (fun z => by have z2 := hf380; rw [z, hq413] at z2; exact absurd z2 (by decide))).trans hf381
      have hf424 : (kN K350 q412 9 0).2.2.1 3 q = some q4 := (if_neg (fun z => by have z2 := hf379; rw [z, hq413] at z2; exact absurd z2 (by decide))).trans hf382
      have hf425 : (kN K350 q412 9 0).1 q4 = 1 := (if_neg (fun z => by have z2 := hf383; rw [z, hq413] at z2; exact absurd z2 (by decide))).trans hf383
      have hf426 : (kN K350 q412 9 0).2.2.1 1 q = ob := (if_neg (fun z => by have z2 := hf379; rw [z, hq413] at z2; exact absurd z2 (by decide))).trans hf384
      have hf427 : (kN K350 q412 9 0).2.2.1 0 q = none := (if_neg (fun z => by have z2 := hf379; rw [z, hq413] at z2; exact absurd z2 (by decide))).trans hf385
      have hf428 : (kN K350 q412 9 0).2.2.1 2 q = some z3 := (if_neg (fun z => by have z2 := hf379; rw [z, hq413] at z2; exact absurd z2 (by decide))).trans hf386
      have hf429 : (kN K350 q412 9 0).1 z3 = 1 := (if_neg (fun z => by have z2 := hf387; rw [z, hq413] at z2; exact absurd z2 (by decide))).trans hf387
      have hf430 : (kN K350 q412 9 0).1 q412 = 9 := if_pos rfl
      refine W.widen (k := 1) (n := 6) (by show 0 + 1 ≤ 1; omega) (by show 0 + 6 ≤ 6; omega) ?_
      refine lv_dup hx hb dX0_loopStatement_76 rfl ?_
      refine lv_aload_n hx hb dX0_loopStatement_77 rfl (lv_at hl 5 rfl) ?_
      refine c_get (v := va_rf lp9) (C := RX0) (Tc := TX0) (N := 13) (ci := 0) hx hb hq pin_wsX00 hown hE hP hO 24 (sg_24 G h0 a _ _ _ _ _) rfl 11 (by decide) (hq _ pw_73) (fun _ h9 => h9) rfl dX0_loopStatement_78 ?_
      refine lv_aload_n hx hb dX0_loopStatement_81 rfl (lv_at hl 5 rfl) ?_
      refine c_get (v := .int ls9) (C := RX0) (Tc := TX0) (N := 13) (ci := 0) hx hb hq pin_wsX00 hown hE hP hO 24 (sg_24 G h0 a _ _ _ _ _) rfl 12 (by decide) (hq _ pw_74) (fun _ h9 => h9) rfl dX0_loopStatement_82 ?_
      have hO : OKP G h0 a (upd (upd (upd (upd (upd (upd (upd (upd (upd (upd F 2 (nI sz)) 5 (nI cs352)) 6 (nI rg)) 7 (nI hd)) 8 (nI dp)) 12 (nI vr)) 13 wt354) 14 wt354) 15 wf355) 16 ls9) (updR (updR (updR R 2 (.ref pq)) 3 (.ref mq)) 4 (va_rf lp9)) Z B351 J (kN K350 q412 9 0) w := hO.to rfl
      obtain ⟨qr434, hqr435⟩ := p_recv hO (by rw [hf430]; decide) (rep_9 hf430)
      refine pc_I0 (G := G) (As := [va_rf lp9, .int ls9]) (rest := [.ref q412, .ref (a 4)]) hx hb hml hown hq hE hX pX0_al hP hD hS hA hl.1 (O_initV l G h0 a (upd (upd (upd (upd (upd (upd (upd (upd (upd (upd F 2 (nI sz)) 5 (nI cs352)) 6 (nI rg)) 7 (nI hd)) 8 (nI dp)) 12 (nI vr)) 13 wt354) 14 wt354) 15 wf355) 16 ls9) (updR (updR (updR R 2 (.ref pq)) 3 (.ref mq)) 4 (va_rf lp9)) Z B351 J (kN K350 q412 9 0) w q412 lp9 ls9 hf430 hO) pw_321 pw_322 pw_315 pw_272 rfl hS_X4_init rfl (Nat.le_of_ble_eq_true rfl) dX0_loopStatement_85 ⟨(by show 1 + 0 ≤ ((rE (g 2 q) - rS (g 2 q)) + 1); omega), (by show 6 + 0 ≤ (6 * (rE (g 2 q) - rS (g 2 q)) + 6); omega)⟩ ⟨(by show 2 + 1 ≤ (5 * n + 46); omega), (by show 8 + (3 + 11) + 60 ≤ (200 * n + 1120); omega)⟩ (fun v433 u431 H locs hw432 hP hD hS => ?_)
      obtain ⟨w, _⟩ := u431
      obtain ⟨hw432, hO⟩ := hw432
      obtain rfl : v433 = none := hw432
      have hf436 : (kI (kI (kI (kI (kI (kC (kN K350 q412 9 0) 16 q412 lp9) 26 q412 ls9) 27 q412 (-1)) 28 q412 (-1)) 29 q412 (-1)) 30 q412 (-1)).1 pq = 7 := hf414
      have hf437 : (kI (kI (kI (kI (kI (kC (kN K350 q412 9 0) 16 q412 lp9) 26 q412 ls9) 27 q412 (-1)) 28 q412 (-1)) 29 q412 (-1)) 30 q412 (-1)).1 dr = 8 := hf417
      have hf438 : (kI (kI (kI (kI (kI (kC (kN K350 q412 9 0) 16 q412 lp9) 26 q412 ls9) 27 q412 (-1)) 28 q412 (-1)) 29 q412 (-1)) 30 q412 (-1)).1 ml = 5 := hf419
      have hf439 : (kI (kI (kI (kI (kI (kC (kN K350 q412 9 0) 16 q412 lp9) 26 q412 ls9) 27 q412 (-1)) 28 q412 (-1)) 29 q412 (-1)) 30 q412 (-1)).1 q = 1 := hf421
      have hf440 : (kI (kI (kI (kI (kI (kC (kN K350 q412 9 0) 16 q412 lp9) 26 q412 ls9) 27 q412 (-1)) 28 q412 (-1)) 29 q412 (-1)) 30 q412 (-1)).1 mq = 3 := hf422
      have hf441 : (kI (kI (kI (kI (kI (kC (kN K350 q412 9 0) 16 q412 lp9) 26 q412 ls9) 27 q412 (-1)) 28 q412 (-1)) 29 q412 (-1)) 30 q412 (-1)).1 q4 = 1 := hf425
      have hf442 : (kI (kI (kI (kI (kI (kC (kN K350 q412 9 0) 16 q412 lp9) 26 q412 ls9) 27 q412 (-1)) 28 q412 (-1)) 29 q412 (-1)) 30 q412 (-1)).1 z3 = 1 := hf429
      have hf443 : (kI (kI (kI (kI (kI (kC (kN K350 q412 9 0) 16 q412 lp9) 26 q412 ls9) 27 q412 (-1)) 28 q412 (-1)) 29 q412 (-1)) 30 q412 (-1)).1 q412 = 9 := hf430
      have hO : OKP G h0 a (upd (upd (upd (upd (upd (upd (upd (upd (upd (upd F 2 (nI sz)) 5 (nI cs352)) 6 (nI rg)) 7 (nI hd)) 8 (nI dp)) 12 (nI vr)) 13 wt354) 14 wt354) 15 wf355) 16 ls9) (updR (updR (updR R 2 (.ref pq)) 3 (.ref mq)) 4 (va_rf lp9)) Z B351 J (kI (kI (kI (kI (kI (kC (kN K350 q412 9 0) 16 q412 lp9) 26 q412 ls9) 27 q412 (-1)) 28 q412 (-1)) 29 q412 (-1)) 30 q412 (-1)) w := hO.to rfl
      refine W.widen (k := 1) (n := 6) (by show 1 + 0 ≤ 1; omega) (by show 6 + 0 ≤ 6; omega) ?_
      refine W.eq (g2 := F0 m 88 ls [.ref q412, .ref (a 4)]) rfl ?_
      obtain ⟨K444, hK445⟩ : ∃ z : PK, z = (kI (kI (kI (kI (kI (kC (kN K350 q412 9 0) 16 q412 lp9) 26 q412 ls9) 27 q412 (-1)) 28 q412 (-1)) 29 q412 (-1)) 30 q412 (-1)) := ⟨_, rfl⟩
      rw [← hK445] at hO
      have hbx446 : BdE K350 K444 := by rw [hK445]; exact BdE.loop hq413
      have hbe447 := BdE.trans hbe388 hbx446
      have hf448 : K444.1 pq = 7 := (BdE.T hbx446 hf372 (by decide))
      have hf449 : K444.2.2.1 18 pq = some (a 1) := (BdE.C hbx446 (by rw [hf372]; decide) 18).trans hf373
      have hf450 : K444.2.2.1 14 pq = some dr := (BdE.C hbx446 (by rw [hf372]; decide) 14).trans hf374
      have hf451 : K444.1 dr = 8 := (BdE.T hbx446 hf375 (by decide))
      have hf452 : K444.2.2.1 15 pq = some ml := (BdE.C hbx446 (by rw [hf372]; decide) 15).trans hf376
      have hf453 : K444.1 ml = 5 := (BdE.T hbx446 hf377 (by decide))
      have hf454 : K444.2.1 24 pq = (nI nd) := (BdE.I hbx446 (by rw [hf372]; decide) (by decide) (by decide)).trans hf378
      have hf455 : K444.1 q = 1 := (BdE.T hbx446 hf379 (by decide))
      have hf456 : K444.1 mq = 3 := (BdE.T hbx446 hf380 (by decide))
      have hf457 : K444.2.1 10 mq = (nI rt) := (BdE.I hbx446 (by rw [hf380]; decide) (by decide) (by decide)).trans hf381
      have hf458 : K444.2.2.1 3 q = some q4 := (BdE.C hbx446 (by rw [hf379]; decide) 3).trans hf382
      have hf459 : K444.1 q4 = 1 := (BdE.T hbx446 hf383 (by decide))
      have hf460 : K444.2.2.1 1 q = ob := (BdE.C hbx446 (by rw [hf379]; decide) 1).trans hf384
      have hf461 : K444.2.2.1 0 q = none := (BdE.C hbx446 (by rw [hf379]; decide) 0).trans hf385
      have hf462 : K444.2.2.1 2 q = some z3 := (BdE.C hbx446 (by rw [hf379]; decide) 2).trans hf386
      have hf463 : K444.1 z3 = 1 := (BdE.T hbx446 hf387 (by decide))
      have hf464 : K444.1 q412 = 9 := by rw [hK445]; exact if_pos rfl
      have hf465 : K444.2.2.1 16 q412 = lp9 := by rw [hK445]; exact kC_eq
      have hbf466 : BeF K350 K444 := by rw [hK445]; exact BeF.loop hq413
      have hbl467 : BeL K350 K444 none := by rw [hK445]; exact BeL.loop hq413
      have hbf468 := BeF.trans hbf399 hbf466 hbe388
      have hbl469 : BeL K K444 lp9 := BeL.trans hbl401 (BeL.any hbl467) hbe388
      have hlf470 : K444.2.1 27 q412 = -1 := by rw [hK445]; exact loop_27
      have hlf471 : K444.2.1 28 q412 = -1 := by rw [hK445]; exact loop_28
      have hlf472 : K444.2.1 29 q412 = -1 := by rw [hK445]; exact loop_29
      have hlf473 : K444.2.1 30 q412 = -1 := by rw [hK445]; exact loop_30
      have hbk474 : BeL K K444 none := BeL.trans hbk409 (BeL.any hbl467) hbj410
      have hbj475 : BdE K K444 := BdE.trans hbj410 hbx446
      have hlr476 : LpR K444 lp9 rL := LpR.same hlr411 (fun lq9 e9 f9 _ _ => hbl467 lq9 (LpO.be hbe388 hlo lq9 e9) (fun z => by cases z) f9)
      have hbk477 : BeL K K444 (some q412) := BeL.any hbk474
      have hinn : K.1 q412 = 0 := BdE.fr hbe388 hq413
      refine c_put (v := .ref q412) (ty := (.object "JinjaTongue$Loop")) (C := RX0) (Tc := TX0) (N := 13) (ci := 0) hx hb hq pin_wsX00 tyX0 tyX0_ok nmX0 hown hE hP hD hS hO 24 (sg_24 G h0 a _ _ _ _ _) rfl 11 (by decide) (hq _ pw_73) (fun _ h9 => h9) rfl (by decide +kernel) rfl rfl (Nat.le_of_ble_eq_true rfl) (sr_4 G h0 a _ _ _ _ _ (.ref q412)) dX0_loopStatement_88 (fun H locs w hP hD hS hO => ?_)
      refine lv_aload_n hx hb dX0_loopStatement_91 rfl (lv_at hl 5 rfl) ?_
      refine lv_aload_n hx hb dX0_loopStatement_92 rfl (lv_at hl 6 rfl) ?_
      refine p_get (v := .ref q4) (C := RX7) (Tc := TX7) (N := 11) (ci := 13) hx hb hq pin_wsX70 hown hE hP hO (by rw [hf455]; decide) (rep_1 hf455) rfl 9 (by decide) (hq _ pw_316) (fun _ h9 => h9) (congrArg (fun z => some (va_rf z)) hf458) dX0_loopStatement_93 ?_
      refine lv_iconst (v := 1) hx hb dX0_loopStatement_96 (by decide) ?_
      have htl478 : tlE g q4 = rE (g 2 q4) - rS (g 2 q4) := rfl
      have hO : OKP G h0 a (upd (upd (upd (upd (upd (upd (upd (upd (upd (upd (upd (upd (upd (upd (upd (upd (upd (upd (upd (upd F 2 (nI sz)) 5 (nI cs)) 6 (nI rg)) 7 (nI hd)) 8 (nI dp)) 12 (nI vr)) 13 as9) 16 ls9) 5 (nI cs352)) 13 wt354) 14 wt354) 15 wf355) 2 (nI sz)) 5 (nI cs352)) 6 (nI rg)) 7 (nI hd)) 8 (nI dp)) 12 (nI vr)) 13 wt354) 16 ls9) (updR (updR (updR (updR (updR (updR R 2 (.ref pq)) 3 (.ref mq)) 4 (.ref q412)) 2 (.ref pq)) 3 (.ref mq)) 4 (va_rf (some q412))) Z B351 J K444 w := hO.to rfl
      obtain ⟨_, qr482, hqr483⟩ := hO.2.1 24 _ (sg_24 G h0 a _ _ _ _ _)
      refine pn_V0 (G := G) (As := [.ref q4, .int (nI 1)]) (rest := []) hx hb hml hown hq hE hX pX0_al hP hD hS hA hl.1 ((ist (n - 1) (by omega)) h0 a (upd (upd (upd (upd (upd (upd (upd (upd (upd (upd (upd (upd F 2 (nI sz)) 5 (nI cs)) 6 (nI rg)) 7 (nI hd)) 8 (nI dp)) 12 (nI vr)) 13 as9) 16 ls9) 5 (nI cs352)) 13 wt354) 14 wt354) 15 wf355) (updR (updR (updR R 2 (.ref pq)) 3 (.ref mq)) 4 (.ref q412)) Z B351 J K444 w pq dr ml nd nm cp it s9 q4 mq cs352 vr sz 1 hd dp rg ls9 (some q412) g rk pb Ag357 Q9 pd358 sl m9 lw c0 rt gr wt354 hd sl ([] : List Nat) ([] : List Nat) (¬ as9 = -1) (by omega) (BdE.wp hbe447 hwp) (BdE.pt hbe447 hwp hps) (BdE.rko hbe447 hrk) (by omega) (by omega) hng390 hf456 hf459 ⟨hv3.1, (by have z9 := hv3; omega)⟩ hf457 hrv (by omega) (by omega) (by omega) (fun x9 h9 => by cases h9; exact hf464) (EkA.be hbe447 (hbr400 7 (by decide)) (hbr400 11 (by decide)) hek) (OwC.be hbe447 hmq hdr0 hcO) (NaB.be hbe447 hbf468 hwp hps.2.1 hdr0 (hbr400 11 (by decide)) hna) hen404 h367.2.1 hst406.1 (by omega) (by omega) (by omega) (SkA.be hbe447 (hbr400 11 (by decide)) hsk) (LpS.new hlf470 hlf471 hlf472 hlf473 (fun z9 h9 => by rcases (h371 z9).mp h9 with y9 | y9; (have v9 := hlp.1 z9 y9; omega); (have v9 := (ExJ.rng h370 z9 y9).2; omega))) hrq405 hst406.2.2.2.2.2.1 (LpR.new hlf472 hlf473) (by omega) hO hl0) (gV pw_300 pw_301 pw_302 pw_63 pw_323) hV_X0_statement qr482 0 hqr483 rfl rfl rfl (Nat.le_of_ble_eq_true rfl) dX0_loopStatement_97 ⟨(by show 1 + ((rE (g 2 q4) - rS (g 2 q4)) + 1) ≤ ((rE (g 2 q) - rS (g 2 q)) + 1); omega), (by show 6 + (6 * (rE (g 2 q4) - rS (g 2 q4)) + 6) ≤ (6 * (rE (g 2 q) - rS (g 2 q)) + 6); omega)⟩ ⟨(by show (5 * (n - 1) + 50) + 1 ≤ (5 * n + 46); omega), (by show 8 + (3 + 11) + (200 * (n - 1) + 1200) ≤ (200 * n + 1120); omega)⟩ (fun v481 u479 H locs hw480 hP hD hS => ?_) (fun ux ce9 q9 H9 locs9 hux hP9 hD9 hS9 hce hcv hcl => pb_out ux (ThQ.up (Thx.same (Thx.same (Thx.same (Thx.same (Thx.same (Thx.same (Thx.same (Thx.same (Thx.f (Thx.f (Thx.f (Thx.f (Bth.thx hbb389) (by omega)) (by omega)) (by omega)) (by omega)) rfl) rfl) rfl) rfl) rfl) rfl) rfl) rfl) (show RhX (updR (updR (updR R 2 (.ref pq)) 3 (.ref mq)) 4 (va_rf lp9)) (updR (updR (updR (updR (updR (updR R 2 (.ref pq)) 3 (.ref mq)) 4 (.ref q412)) 2 (.ref pq)) 3 (.ref mq)) 4 (va_rf (some q412))) from fun k9 hk9 => by unfold updR; simp only [show ¬ k9 = 1 by omega, show ¬ k9 = 2 by omega, show ¬ k9 = 3 by omega, show ¬ k9 = 4 by omega, if_false]) hux) hnt hlocks hce hcv hcl hP9 hD9 hS9 (by show 1 + ((rE (g 2 q4) - rS (g 2 q4)) + 1) ≤ ((rE (g 2 q) - rS (g 2 q)) + 1); omega) (by show 6 + (6 * (rE (g 2 q4) - rS (g 2 q4)) + 6) ≤ (6 * (rE (g 2 q) - rS (g 2 q)) + 6); omega))
      obtain ⟨w, K484, B485, cs486, as487, wt488, wf489, vr490, hd491, dp492, Ag493, sl494, rg495, gr496, ls497, Q498, pd499, xb500, xc501⟩ := u479
      obtain ⟨hw480, h502, h503, h504, h505, h506, h507, h508, h509, h510, h511, h512, h513, h514, h515, h516, h517, h518, h519, h520, h521, hO⟩ := hw480
      have h502 : SmW B351 B485 cs352 := h502
      have h503 : BdE K444 K484 := h503
      have h504 : BeF K444 K484 := h504
      have h505 : BeL K444 K484 (some q412) := h505
      have h506 : Bth B351 B485 := h506
      have h507 : BtR B351 B485 := h507
      have h508 : cs352 ≤ cs486 ∧ cs486 + 0 ≤ cs352 + 2 * tlE g q4 := h508
      have h509 : dp ≤ dp492 ∧ dp492 ≤ 71 := h509
      have h510 : vr ≤ vr490 ∧ vr490 ≤ 30 ∧ hd491 + vr = hd + vr490 := h510
      have h511 : AsO as487 := h511
      have h512 : VrS B351 B485 vr := h512
      have h513 : cs352 < cs486 ∨ (hd491 = hd ∧ sl494 = sl) := h513
      have h514 : ¬ K444.2.1 0 q4 = 22 → hd491 = hd := h514
      have h515 : gr ≤ gr496 ∧ rg495 ≤ 625 ∧ rg495 ≤ gr496 ∧ (rg495 = 625 ∨ rg495 = gr496) := h515
      have h516 : EnV (B485 26) (B485 27) nd vr490 hd491 c0 sl494 := h516
      have h517 : StW pb.1 pb.2.1 pb.2.2.1 pb.2.2.2 Ag357 Ag493 Q9 Q498 pd358 pd499 m9 dp492 lw cs352 cs486 wt354 as487 hd hd491 sl sl494 gr gr496 (B485 16) (B485 17) (B485 18) (B485 19) [] := h517
      have h518 : LpS K484 (B485 16) (B485 17) Ag493 pd499 (some q412) lw cs486 hd491 sl494 hd sl xb500 xc501 := h518
      have h519 : PdS pd358 pd499 ([] : List Nat) xb500 ([] : List Nat) xc501 [] cs352 cs486 := h519
      have h520 : RgQx B485 Q498 gr496 nd := h520
      have h521 : LpR K484 (some q412) (¬ as9 = -1) := h521
      obtain rfl : v481 = none := hw480
      have hf522 : K484.1 pq = 7 := (BdE.T h503 hf448 (by decide))
      have hf523 : K484.2.2.1 18 pq = some (a 1) := (BdE.C h503 (by rw [hf448]; decide) 18).trans hf449
      have hf524 : K484.2.2.1 14 pq = some dr := (BdE.C h503 (by rw [hf448]; decide) 14).trans hf450
      have hf525 : K484.1 dr = 8 := (BdE.T h503 hf451 (by decide))
      have hf526 : K484.2.2.1 15 pq = some ml := (BdE.C h503 (by rw [hf448]; decide) 15).trans hf452
      have hf527 : K484.1 ml = 5 := (BdE.T h503 hf453 (by decide))
      have hf528 : K484.2.1 24 pq = (nI nd) := (BdE.I h503 (by rw [hf448]; decide) (by decide) (by decide)).trans hf454
      have hf529 : K484.1 q = 1 := (BdE.T h503 hf455 (by decide))
      have hf530 : K484.1 mq = 3 := (BdE.T h503 hf456 (by decide))
      have hf531 : K484.2.1 10 mq = (nI rt) := (BdE.I h503 (by rw [hf456]; decide) (by decide) (by decide)).trans hf457
      have hf532 : K484.2.2.1 3 q = some q4 := (BdE.C h503 (by rw [hf455]; decide) 3).trans hf458
      have hf533 : K484.1 q4 = 1 := (BdE.T h503 hf459 (by decide))
      have hf534 : K484.2.2.1 1 q = ob := (BdE.C h503 (by rw [hf455]; decide) 1).trans hf460
      have hf535 : K484.2.2.1 0 q = none := (BdE.C h503 (by rw [hf455]; decide) 0).trans hf461
      have hf536 : K484.2.2.1 2 q = some z3 := (BdE.C h503 (by rw [hf455]; decide) 2).trans hf462
      have hf537 : K484.1 z3 = 1 := (BdE.T h503 hf463 (by decide))
      have hf538 : K484.1 q412 = 9 := (BdE.T h503 hf464 (by decide))
      have hf539 : K484.2.2.1 16 q412 = lp9 := (BdE.C h503 (by rw [hf464]; decide) 16).trans hf465
      have hO : OKP G h0 a (upd (upd (upd (upd (upd (upd (upd (upd (upd (upd F 2 (nI sz)) 5 (nI cs486)) 6 (nI rg495)) 7 (nI hd491)) 8 (nI dp492)) 12 (nI vr490)) 13 as487) 14 wt488) 15 wf489) 16 ls497) (updR (updR (updR R 2 (.ref pq)) 3 (.ref mq)) 4 (.ref q412)) Z B485 J K484 w := hO.to rfl
      refine W.widen (k := (1 + (rE (g 2 q4) - rS (g 2 q4)))) (n := (6 + (6 * (rE (g 2 q4) - rS (g 2 q4))))) (by show 1 + (rE (g 2 q4) - rS (g 2 q4)) ≤ (1 + (rE (g 2 q4) - rS (g 2 q4))); omega) (by show 6 + (6 * (rE (g 2 q4) - rS (g 2 q4))) ≤ (6 + (6 * (rE (g 2 q4) - rS (g 2 q4)))); omega) ?_
      refine W.eq (g2 := F0 m 100 ls []) rfl ?_
      have hbe540 := BdE.trans hbe447 h503
      have hbb541 : Bth B B485 := Bth.trans (show Thx (upd (upd (upd (upd (upd (upd (upd (upd F 2 (nI sz)) 5 (nI cs)) 6 (nI rg)) 7 (nI hd)) 8 (nI dp)) 12 (nI vr)) 13 as9) 16 ls9) (upd (upd (upd (upd (upd (upd (upd (upd (upd (upd (upd (upd F 2 (nI sz)) 5 (nI cs)) 6 (nI rg)) 7 (nI hd)) 8 (nI dp)) 12 (nI vr)) 13 as9) 16 ls9) 5 (nI cs352)) 13 wt354) 14 wt354) 15 wf355) B B351 from (Thx.f (Thx.f (Thx.f (Thx.f (Bth.thx hbb389) (by omega)) (by omega)) (by omega)) (by omega))).2 h506
      have hng542 : Nng (B485 18) := h506.2 hng390
      have hsw543 : ∀ x9 : Nat, x9 < cs → (B485 16) x9 = B 16 x9 := fun x9 hx9 => ((h502 x9 (by omega)).1).trans (hsw391 x9 hx9)
      have hsw544 : ∀ x9 : Nat, x9 < cs → (B485 17) x9 = B 17 x9 := fun x9 hx9 => ((h502 x9 (by omega)).2.1).trans (hsw392 x9 hx9)
      have hsw545 : ∀ x9 : Nat, x9 < cs → (B485 18) x9 = B 18 x9 := fun x9 hx9 => ((h502 x9 (by omega)).2.2.1).trans (hsw393 x9 hx9)
      have hsw546 : ∀ x9 : Nat, x9 < cs → (B485 19) x9 = B 19 x9 := fun x9 hx9 => ((h502 x9 (by omega)).2.2.2).trans (hsw394 x9 hx9)
      have hsx547 : ∀ x9 : Nat, x9 < cs → (B485 16) x9 = (B 16) x9 := fun x9 hx9 => ((h502 x9 (by omega)).1).trans (hsx395 x9 hx9)
      have hsx548 : ∀ x9 : Nat, x9 < cs → (B485 17) x9 = (B 17) x9 := fun x9 hx9 => ((h502 x9 (by omega)).2.1).trans (hsx396 x9 hx9)
      have hsx549 : ∀ x9 : Nat, x9 < cs → (B485 18) x9 = (B 18) x9 := fun x9 hx9 => ((h502 x9 (by omega)).2.2.1).trans (hsx397 x9 hx9)
      have hsx550 : ∀ x9 : Nat, x9 < cs → (B485 19) x9 = (B 19) x9 := fun x9 hx9 => ((h502 x9 (by omega)).2.2.2).trans (hsx398 x9 hx9)
      have hbf551 := BeF.trans hbf468 h504 hbe447
      have hbl553 : BeL K K484 lp9 := BeL.new hbl469 hbe447 hinn h505
      have hbr552 : BtR B B485 := BtR.trans hbr400 h507
      have hvs554 : VrS B B485 vr := VrS.trans hvs402 h512 (by omega)
      have hvF555 : VrS B B485 vr := VrS.trans hvF403 h512 (by omega)
      have hst556 : StW pb.1 pb.2.1 pb.2.2.1 pb.2.2.2 Ag Ag493 Q9 Q498 pd pd499 m9 dp492 lw cs cs486 as9 as487 hd hd491 sl sl494 gr gr496 (B485 16) (B485 17) (B485 18) (B485 19) ([] : List Nat) := StW.seq hst406 (by omega) (fun x9 hx9 => ⟨(h502 x9 hx9).1, (h502 x9 hx9).2.1⟩) h517
      have hsn557 := hst556.1.2.2.2.1
      have hj558 : (B485 16) cs = (nI 0) := ((h502 cs (by omega)).1).trans hj407
      have hj559 : Ag493 cs = (rcA as9, hd, sl, ([] : List Nat)) := (h517.2.2.1 cs (by omega)).trans hj408
      have hex560 : ExJ (B485 16) (B485 17) Ag493 x356 ex359 lw (cs + 1) cs352 hd sl wt354 wf355 := ExJ.same h370 (fun z8 hz8 => ⟨(h502 z8 (by omega)).1, (h502 z8 (by omega)).2.1⟩) (fun z8 hz8 => h517.2.2.1 z8 (by omega))
      have hbk561 : BeL K K484 (some q412) := BeL.trans hbk477 h505 hbj475
      have hbj562 : BdE K K484 := BdE.trans hbj475 h503
      have hlr563 : LpR K484 lp9 rL := LpR.same hlr476 (fun lq9 e9 f9 _ _ => h505 lq9 (LpO.be hbe447 hlo lq9 e9) (fun z => by have y9 := hlo lq9 e9; have v9 := Option.some.inj z; rw [← v9, hinn] at y9; exact absurd y9 (by decide)) f9)
      have hnlhd491 : hd491 = hd := h514 (by rw [BdE.I hbe447 (by rw [hsd2.1]; decide) (by decide) (by decide)]; exact hsd2.2)
      obtain rfl : vr = vr490 := by omega
      obtain rfl : hd = hd491 := hnlhd491.symm
      have h502 : SmW B351 B485 cs352 := h502
      have h503 : BdE K444 K484 := h503
      have h504 : BeF K444 K484 := h504
      have h505 : BeL K444 K484 (some q412) := h505
      have h506 : Bth B351 B485 := h506
      have h507 : BtR B351 B485 := h507
      have h508 : cs352 ≤ cs486 ∧ cs486 + 0 ≤ cs352 + 2 * tlE g q4 := h508
      have h509 : dp ≤ dp492 ∧ dp492 ≤ 71 := h509
      have h510 : vr ≤ vr ∧ vr ≤ 30 ∧ hd + vr = hd + vr := h510
      have h511 : AsO as487 := h511
      have h512 : VrS B351 B485 vr := h512
      have h513 : cs352 < cs486 ∨ (hd = hd ∧ sl494 = sl) := h513
      have h514 : ¬ K444.2.1 0 q4 = 22 → hd = hd := h514
      have h515 : gr ≤ gr496 ∧ rg495 ≤ 625 ∧ rg495 ≤ gr496 ∧ (rg495 = 625 ∨ rg495 = gr496) := h515
      have h516 : EnV (B485 26) (B485 27) nd vr hd c0 sl494 := h516
      have h517 : StW pb.1 pb.2.1 pb.2.2.1 pb.2.2.2 Ag357 Ag493 Q9 Q498 pd358 pd499 m9 dp492 lw cs352 cs486 wt354 as487 hd hd sl sl494 gr gr496 (B485 16) (B485 17) (B485 18) (B485 19) [] := h517
      have h518 : LpS K484 (B485 16) (B485 17) Ag493 pd499 (some q412) lw cs486 hd sl494 hd sl xb500 xc501 := h518
      have h519 : PdS pd358 pd499 ([] : List Nat) xb500 ([] : List Nat) xc501 [] cs352 cs486 := h519
      have h520 : RgQx B485 Q498 gr496 nd := h520
      have h521 : LpR K484 (some q412) (¬ as9 = -1) := h521
      have hlpi := h518
      obtain ⟨hi1, hi2, hi3, hi4, hi5, hi6, hi7, hi8, hi9, hi10⟩ := LpS.c hlpi
      have hidis := (hlpi.2.2 q412 rfl).2
      have hpdi := h519
      have hlri := h521 q412 rfl
      obtain ⟨bv, hbv⟩ : ∃ z : Int32, K484.2.1 27 q412 = z := ⟨_, rfl⟩
      obtain ⟨cv, hcv⟩ : ∃ z : Int32, K484.2.1 28 q412 = z := ⟨_, rfl⟩
      obtain ⟨bsv, hbsv⟩ : ∃ z : Int32, K484.2.1 29 q412 = z := ⟨_, rfl⟩
      obtain ⟨csv, hcsv⟩ : ∃ z : Int32, K484.2.1 30 q412 = z := ⟨_, rfl⟩
      rw [hbv] at hi1
      rw [hcv] at hi2
      rw [hbsv] at hi3 hi5 hlri
      rw [hcsv] at hi4 hi6 hlri
      have hgeb : ∀ z9 : Nat, z9 ∈ xb500 → cs352 ≤ z9 := fun z9 hz9 => (hpdi.2.2.2.2.1 z9 hz9).resolve_left (List.not_mem_nil)
      have hgec : ∀ z9 : Nat, z9 ∈ xc501 → cs352 ≤ z9 := fun z9 hz9 => (hpdi.2.2.2.2.2.1 z9 hz9).resolve_left (List.not_mem_nil)
      have hbrq : BrJ (B485 16) (B485 17) Ag493 bv bsv xb500 lw cs486 hd sl := ⟨hi1, hi3⟩
      refine lv_aload_n hx hb dX0_loopStatement_100 rfl (lv_at hl 5 rfl) ?_
      refine c_get (v := .ref (a 2)) (C := RX0) (Tc := TX0) (N := 13) (ci := 0) hx hb hq pin_wsX00 hown hE hP hO 24 (sg_24 G h0 a _ _ _ _ _) rfl 1 (by decide) (hq _ pw_5) (fun _ h9 => h9) rfl dX0_loopStatement_101 ?_
      refine lv_aload_n hx hb dX0_loopStatement_104 rfl (lv_at hl 5 rfl) ?_
      refine c_get (v := .ref q412) (C := RX0) (Tc := TX0) (N := 13) (ci := 0) hx hb hq pin_wsX00 hown hE hP hO 24 (sg_24 G h0 a _ _ _ _ _) rfl 11 (by decide) (hq _ pw_73) (fun _ h9 => h9) rfl dX0_loopStatement_105 ?_
      refine p_get (v := .int cv) (C := RX4) (Tc := TX4) (N := 6) (ci := 11) hx hb hq pin_wsX40 hown hE hP hO (by rw [hf538]; decide) (rep_9 hf538) rfl 3 (by decide) (hq _ pw_284) (fun _ h9 => h9) (congrArg (fun z => some (Value.int z)) hcv) dX0_loopStatement_108 ?_
      have hao564 := AsO.and h511 hi6
      have hO : OKW G h0 a (upd (upd (upd (upd (upd (upd (upd (upd (upd (upd (upd F 2 (nI sz)) 5 (nI cs486)) 6 (nI rg495)) 7 (nI hd)) 8 (nI dp492)) 12 (nI vr)) 13 as487) 14 wt488) 15 wf489) 16 ls497) 5 (nI cs486)) (updR (updR (updR R 2 (.ref pq)) 3 (.ref mq)) 4 (.ref q412)) Z B485 J K484.1 (fun q99 x99 => x99 = rep G a K484 q99) w := hO.to rfl
      obtain ⟨_, qr568, hqr569⟩ := hO.2.1 13 _ (sg_13 G h0 a _ _ _ _ _)
      refine pc_V0 (G := G) (As := [.int cv]) (rest := []) hx hb hml hown hq hE hX pX0_al hP hD hS hA hl.1 (Y_land l G h0 a (upd (upd (upd (upd (upd (upd (upd (upd (upd (upd F 2 (nI sz)) 5 (nI cs486)) 6 (nI rg495)) 7 (nI hd)) 8 (nI dp492)) 12 (nI vr)) 13 as487) 14 wt488) 15 wf489) 16 ls497) (updR (updR (updR R 2 (.ref pq)) 3 (.ref mq)) 4 (.ref q412)) Z B485 J K484.1 (fun q99 x99 => x99 = rep G a K484 q99) w cv cs486 xc501 (by omega) hi2 (fun y9 hy9 => (hi4 y9 hy9).2.1) hO) (gV pw_200 pw_201 pw_202 pw_70 pw_134) hV_X1_land qr568 1 hqr569 rfl rfl rfl (Nat.le_of_ble_eq_true rfl) dX0_loopStatement_111 ⟨(by show (1 + (rE (g 2 q4) - rS (g 2 q4))) + 0 ≤ ((rE (g 2 q) - rS (g 2 q)) + 1); omega), (by show (6 + (6 * (rE (g 2 q4) - rS (g 2 q4)))) + 0 ≤ (6 * (rE (g 2 q) - rS (g 2 q)) + 6); omega)⟩ ⟨(by show 2 + 1 ≤ (5 * n + 46); omega), (by show 8 + (5 + 11) + 60 ≤ (200 * n + 1120); omega)⟩ (fun v567 u565 H locs hw566 hP hD hS => ?_)
      obtain ⟨w, _⟩ := u565
      obtain ⟨hw566, hO⟩ := hw566
      obtain rfl : v567 = none := hw566
      have hO : OKP G h0 a (upd (upd (upd (upd (upd (upd (upd (upd (upd (upd F 2 (nI sz)) 5 (nI cs486)) 6 (nI rg495)) 7 (nI hd)) 8 (nI dp492)) 12 (nI vr)) 13 as487) 14 wt488) 15 wf489) 16 ls497) (updR (updR (updR R 2 (.ref pq)) 3 (.ref mq)) 4 (.ref q412)) Z (updA B485 17 (aim ((B485 17)) xc501 cs486)) J K484 w := hO.to rfl
      refine W.widen (k := (1 + (rE (g 2 q4) - rS (g 2 q4)))) (n := (6 + (6 * (rE (g 2 q4) - rS (g 2 q4))))) (by show (1 + (rE (g 2 q4) - rS (g 2 q4))) + 0 ≤ (1 + (rE (g 2 q4) - rS (g 2 q4))); omega) (by show (6 + (6 * (rE (g 2 q4) - rS (g 2 q4)))) + 0 ≤ (6 + (6 * (rE (g 2 q4) - rS (g 2 q4)))); omega) ?_
      refine W.eq (g2 := F0 m 114 ls []) rfl ?_
      have hsw570 : ∀ x9 : Nat, x9 < cs → (aim ((B485 17)) xc501 cs486) x9 = B 17 x9 := fun x9 hx9 => (aim_no (fun q9 => by have e9 := hgec x9 q9; omega)).trans (hsw544 x9 hx9)
      have hsx571 : ∀ x9 : Nat, x9 < cs → (aim ((B485 17)) xc501 cs486) x9 = (B 17) x9 := fun x9 hx9 => (aim_no (fun q9 => by have e9 := hgec x9 q9; omega)).trans (hsx548 x9 hx9)
      obtain ⟨Ag572, hst573, hag574⟩ : ∃ A5 : Nat → AS, StW pb.1 pb.2.1 pb.2.2.1 pb.2.2.2 Ag A5 Q9 Q498 pd (pdm pd499 xc501) m9 dp492 lw cs cs486 as9 (as487 &&& csv) hd hd sl sl gr gr496 (B485 16) (aim ((B485 17)) xc501 cs486) (B485 18) (B485 19) ([] : List Nat) ∧ ∀ x9 : Nat, x9 < cs486 → A5 x9 = Ag493 x9 := ⟨(upS Ag493 cs486 (rcA (as487 &&& csv), hd, sl, ([] : List Nat))), StW.lnd (bs := csv) hst556 hi8 hi4 (fun z9 => and_n2 z9) (fun z9 => and_n1 z9) (fun z9 hz9 => by have y9 := hgec z9 hz9; omega) ⟨by omega, by omega⟩ (fun z9 e9 => z9 (and_m1.mpr ⟨Classical.byContradiction fun y9 => hst556.2.2.2.2.2.1 y9 e9, Classical.byContradiction fun y9 => hlri.2 y9 e9⟩)) hwfF (by omega), fun x9 hx9 => upS_ne (by omega)⟩
      have hen575 := EnV.back hen hvs554
      have hj576 : (B485 16) cs = (nI 0) := (rfl).trans hj558
      have hj577 : Ag572 cs = (rcA as9, hd, sl, ([] : List Nat)) := (hag574 cs (by omega)).trans hj559
      have hex578 : ExJ (B485 16) (aim ((B485 17)) xc501 cs486) Ag572 x356 ex359 lw (cs + 1) cs352 hd sl wt354 wf355 := ExJ.land hex560 (fun z8 hz8 => ⟨rfl, aim_no (fun q9 => by have e9 := hgec z8 q9; omega)⟩) (by omega) hag574 hst573.1.1.2 hst556.1.1.2 (fun z9 => and_n1 z9)
      have hbq579 : BrJ (B485 16) (aim ((B485 17)) xc501 cs486) Ag572 bv bsv xb500 lw cs486 hd sl := BrJ.same hbrq (fun z9 hz9 => by have y9 := BrJ.lt hbrq z9 hz9; have y8 := hgeb z9 hz9; exact ⟨rfl, aim_no (fun q9 => by have e9 := (absurd q9 (hidis z9 hz9) : (0 : Nat) = 1); omega), hag574 z9 (by omega)⟩) (by omega)
      refine lv_aload_n hx hb dX0_loopStatement_114 rfl (lv_at hl 6 rfl) ?_
      refine p_get (v := .ref z3) (C := RX7) (Tc := TX7) (N := 11) (ci := 13) hx hb hq pin_wsX70 hown hE hP hO (by rw [hf529]; decide) (rep_1 hf529) rfl 8 (by decide) (hq _ pw_196) (fun _ h9 => h9) (congrArg (fun z => some (va_rf z)) hf536) dX0_loopStatement_115 ?_
      refine lv_ifnull hx hb dX0_loopStatement_118 ?_
      refine lv_aload_n hx hb dX0_loopStatement_121 rfl (lv_at hl 5 rfl) ?_
      refine lv_dup hx hb dX0_loopStatement_122 rfl ?_
      refine c_get (v := .int as487) (C := RX0) (Tc := TX0) (N := 13) (ci := 0) hx hb hq pin_wsX00 hown hE hP hO 24 (sg_24 G h0 a _ _ _ _ _) rfl 8 (by decide) (hq _ pw_55) (fun _ h9 => h9) rfl dX0_loopStatement_123 ?_
      refine lv_aload_n hx hb dX0_loopStatement_126 rfl (lv_at hl 5 rfl) ?_
      refine c_get (v := .ref q412) (C := RX0) (Tc := TX0) (N := 13) (ci := 0) hx hb hq pin_wsX00 hown hE hP hO 24 (sg_24 G h0 a _ _ _ _ _) rfl 11 (by decide) (hq _ pw_73) (fun _ h9 => h9) rfl dX0_loopStatement_127 ?_
      refine p_get (v := .int csv) (C := RX4) (Tc := TX4) (N := 6) (ci := 11) hx hb hq pin_wsX40 hown hE hP hO (by rw [hf538]; decide) (rep_9 hf538) rfl 5 (by decide) (hq _ pw_285) (fun _ h9 => h9) (congrArg (fun z => some (Value.int z)) hcsv) dX0_loopStatement_130 ?_
      refine lv_iand hx hb dX0_loopStatement_133 ?_
      refine lv_topi (fun x580 e581 => ?_)
      obtain rfl : x580 = (as487 &&& csv) := e581
      refine c_put (v := .int (as487 &&& csv)) (ty := .int) (C := RX0) (Tc := TX0) (N := 13) (ci := 0) hx hb hq pin_wsX00 tyX0 tyX0_ok nmX0 hown hE hP hD hS hO 24 (sg_24 G h0 a _ _ _ _ _) rfl 8 (by decide) (hq _ pw_55) (fun _ h9 => h9) rfl (by decide +kernel) rfl rfl (Nat.le_of_ble_eq_true rfl) (sf_13 G h0 a _ _ _ _ _ (as487 &&& csv)) dX0_loopStatement_134 (fun H locs w hP hD hS hO => ?_)
      refine lv_aload_n hx hb dX0_loopStatement_137 rfl (lv_at hl 5 rfl) ?_
      refine lv_aload_n hx hb dX0_loopStatement_138 rfl (lv_at hl 6 rfl) ?_
      refine p_get (v := .ref z3) (C := RX7) (Tc := TX7) (N := 11) (ci := 13) hx hb hq pin_wsX70 hown hE hP hO (by rw [hf529]; decide) (rep_1 hf529) rfl 8 (by decide) (hq _ pw_196) (fun _ h9 => h9) (congrArg (fun z => some (va_rf z)) hf536) dX0_loopStatement_139 ?_
      refine lv_iconst (v := 0) hx hb dX0_loopStatement_142 (by decide) ?_
      have htl582 : tlE g z3 = rE (g 2 z3) - rS (g 2 z3) := rfl
      have hO : OKP G h0 a (upd (upd (upd (upd (upd (upd (upd (upd (upd (upd (upd (upd (upd (upd (upd (upd (upd (upd (upd (upd (upd (upd (upd F 2 (nI sz)) 5 (nI cs)) 6 (nI rg)) 7 (nI hd)) 8 (nI dp)) 12 (nI vr)) 13 as9) 16 ls9) 5 (nI cs486)) 6 (nI rg495)) 8 (nI dp492)) 13 (as487 &&& csv)) 14 wt488) 15 wf489) 16 ls497) 2 (nI sz)) 5 (nI cs486)) 6 (nI rg495)) 7 (nI hd)) 8 (nI dp492)) 12 (nI vr)) 13 (as487 &&& csv)) 16 ls497) (updR (updR (updR (updR (updR (updR R 2 (.ref pq)) 3 (.ref mq)) 4 (.ref q412)) 2 (.ref pq)) 3 (.ref mq)) 4 (va_rf (some q412))) Z (updA B485 17 (aim ((B485 17)) xc501 cs486)) J K484 w := hO.to rfl
      obtain ⟨_, qr586, hqr587⟩ := hO.2.1 24 _ (sg_24 G h0 a _ _ _ _ _)
      refine pn_V0 (G := G) (As := [.ref z3, .int 0]) (rest := []) hx hb hml hown hq hE hX pX0_al hP hD hS hA hl.1 (Y_stS l G h0 a (upd (upd (upd (upd (upd (upd (upd (upd (upd (upd (upd (upd (upd (upd (upd F 2 (nI sz)) 5 (nI cs)) 6 (nI rg)) 7 (nI hd)) 8 (nI dp)) 12 (nI vr)) 13 as9) 16 ls9) 5 (nI cs486)) 6 (nI rg495)) 8 (nI dp492)) 13 (as487 &&& csv)) 14 wt488) 15 wf489) 16 ls497) (updR (updR (updR R 2 (.ref pq)) 3 (.ref mq)) 4 (.ref q412)) Z (updA B485 17 (aim ((B485 17)) xc501 cs486)) J K484 w pq dr ml nd nm cp it s9 z3 mq cs486 vr sz (n - 1) hd dp492 rg495 ls497 (some q412) g rk pb Ag572 Q498 (pdm pd499 xc501) sl m9 lw c0 rt gr496 (as487 &&& csv) (by omega) (BdE.wp hbe540 hwp) (BdE.pt hbe540 hwp hps) (BdE.rko hbe540 hrk) (by omega) (by omega) hng542 hf530 hf537 ⟨hz2v.1, (by have z9 := hz2v; omega)⟩ hf531 hrv (by omega) (by omega) (by omega) (fun x9 h9 => by cases h9; exact hf538) (EkA.be hbe540 ((BtR.up hbr552 (by omega)) 7 (by decide)) ((BtR.up hbr552 (by omega)) 11 (by decide)) hek) (OwC.be hbe540 hmq hdr0 hcO) (NaB.be hbe540 hbf551 hwp hps.2.1 hdr0 ((BtR.up hbr552 (by omega)) 11 (by decide)) hna) hen575 hao564 hst573.1 (by omega) (SkA.be hbe540 ((BtR.up hbr552 (by omega)) 11 (by decide)) hsk) (by rw [BdE.I hbe540 (by rw [hsdC.1]; decide) (by decide) (by decide)]; exact Or.inr hsdC.2) hO hl0) (gV pw_300 pw_301 pw_302 pw_63 pw_323) hV_X0_statement qr586 0 hqr587 rfl rfl rfl (Nat.le_of_ble_eq_true rfl) dX0_loopStatement_143 ⟨(by show (1 + (rE (g 2 q4) - rS (g 2 q4))) + 1 ≤ ((rE (g 2 q) - rS (g 2 q)) + 1); omega), (by show (6 + (6 * (rE (g 2 q4) - rS (g 2 q4)))) + 6 ≤ (6 * (rE (g 2 q) - rS (g 2 q)) + 6); omega)⟩ ⟨(by show (5 * (n - 1) + 50) + 1 ≤ (5 * n + 46); omega), (by show 8 + (3 + 11) + (200 * (n - 1) + 1200) ≤ (200 * n + 1120); omega)⟩ (fun v585 u583 H locs hw584 hP hD hS => ?_) (fun ux ce9 q9 H9 locs9 hux hP9 hD9 hS9 hce hcv hcl => pb_out ux (ThQ.up (Thx.same (Thx.same (Thx.same (Thx.same (Thx.same (Thx.same (Thx.same (Thx.same (Thx.b (Thx.f (Thx.f (Thx.f (Thx.f (Thx.f (Thx.f (Thx.f (Bth.thx hbb541) (by omega)) (by omega)) (by omega)) (by omega)) (by omega)) (by omega)) (by omega)) (by omega) (by decide)) rfl) rfl) rfl) rfl) rfl) rfl) rfl) rfl) (show RhX (updR (updR (updR R 2 (.ref pq)) 3 (.ref mq)) 4 (va_rf lp9)) (updR (updR (updR (updR (updR (updR R 2 (.ref pq)) 3 (.ref mq)) 4 (.ref q412)) 2 (.ref pq)) 3 (.ref mq)) 4 (va_rf (some q412))) from fun k9 hk9 => by unfold updR; simp only [show ¬ k9 = 1 by omega, show ¬ k9 = 2 by omega, show ¬ k9 = 3 by omega, show ¬ k9 = 4 by omega, if_false]) hux) hnt hlocks hce hcv hcl hP9 hD9 hS9 (by show (1 + (rE (g 2 q4) - rS (g 2 q4))) + 1 ≤ ((rE (g 2 q) - rS (g 2 q)) + 1); omega) (by show (6 + (6 * (rE (g 2 q4) - rS (g 2 q4)))) + 6 ≤ (6 * (rE (g 2 q) - rS (g 2 q)) + 6); omega))
      obtain ⟨w, K588, B589, cs590, as591, wt592, wf593, vr594, hd595, dp596, Ag597, sl598⟩ := u583
      obtain ⟨hw584, h599, h600, h601, h602, h603, h604, h605, h606, h607, h608, h609, h610, h611, h612, hO⟩ := hw584
      have h599 : SmW (updA B485 17 (aim ((B485 17)) xc501 cs486)) B589 cs486 := h599
      have h600 : BdE K484 K588 := h600
      have h601 : BeF K484 K588 := h601
      have h602 : BeL K484 K588 none := h602
      have h603 : Bth (updA B485 17 (aim ((B485 17)) xc501 cs486)) B589 := h603
      have h604 : BsR (updA B485 17 (aim ((B485 17)) xc501 cs486)) B589 := h604
      have h605 : cs486 ≤ cs590 ∧ cs590 + 1 ≤ cs486 + 2 * tlE g z3 := h605
      have h606 : dp492 ≤ dp596 ∧ dp596 ≤ 71 := h606
      have h607 : vr ≤ vr594 ∧ vr594 ≤ 30 ∧ hd595 + vr = hd + vr594 := h607
      have h608 : AsO as591 := h608
      have h609 : VrS (updA B485 17 (aim ((B485 17)) xc501 cs486)) B589 vr := h609
      have h610 : cs486 < cs590 := h610
      have h611 : EnV (B589 26) (B589 27) nd vr594 hd595 c0 sl598 := h611
      have h612 : StW pb.1 pb.2.1 pb.2.2.1 pb.2.2.2 Ag572 Ag597 Q498 Q498 (pdm pd499 xc501) (pdm pd499 xc501) m9 dp596 lw cs486 cs590 (as487 &&& csv) as591 hd hd595 sl sl598 gr496 gr496 (B589 16) (B589 17) (B589 18) (B589 19) [] := h612
      obtain rfl : v585 = none := hw584
      have hf613 : K588.1 pq = 7 := (BdE.T h600 hf522 (by decide))
      have hf614 : K588.2.2.1 18 pq = some (a 1) := (BdE.C h600 (by rw [hf522]; decide) 18).trans hf523
      have hf615 : K588.2.2.1 14 pq = some dr := (BdE.C h600 (by rw [hf522]; decide) 14).trans hf524
      have hf616 : K588.1 dr = 8 := (BdE.T h600 hf525 (by decide))
      have hf617 : K588.2.2.1 15 pq = some ml := (BdE.C h600 (by rw [hf522]; decide) 15).trans hf526
      have hf618 : K588.1 ml = 5 := (BdE.T h600 hf527 (by decide))
      have hf619 : K588.2.1 24 pq = (nI nd) := (BdE.I h600 (by rw [hf522]; decide) (by decide) (by decide)).trans hf528
      have hf620 : K588.1 q = 1 := (BdE.T h600 hf529 (by decide))
      have hf621 : K588.1 mq = 3 := (BdE.T h600 hf530 (by decide))
      have hf622 : K588.2.1 10 mq = (nI rt) := (BdE.I h600 (by rw [hf530]; decide) (by decide) (by decide)).trans hf531
      have hf623 : K588.2.2.1 3 q = some q4 := (BdE.C h600 (by rw [hf529]; decide) 3).trans hf532
      have hf624 : K588.1 q4 = 1 := (BdE.T h600 hf533 (by decide))
      have hf625 : K588.2.2.1 1 q = ob := (BdE.C h600 (by rw [hf529]; decide) 1).trans hf534
      have hf626 : K588.2.2.1 0 q = none := (BdE.C h600 (by rw [hf529]; decide) 0).trans hf535
      have hf627 : K588.2.2.1 2 q = some z3 := (BdE.C h600 (by rw [hf529]; decide) 2).trans hf536
      have hf628 : K588.1 z3 = 1 := (BdE.T h600 hf537 (by decide))
      have hf629 : K588.1 q412 = 9 := (BdE.T h600 hf538 (by decide))
      have hf630 : K588.2.2.1 16 q412 = lp9 := (BdE.C h600 (by rw [hf538]; decide) 16).trans hf539
      have hO : OKP G h0 a (upd (upd (upd (upd (upd (upd (upd (upd (upd (upd F 2 (nI sz)) 5 (nI cs590)) 6 (nI rg495)) 7 (nI hd595)) 8 (nI dp596)) 12 (nI vr594)) 13 as591) 14 wt592) 15 wf593) 16 ls497) (updR (updR (updR R 2 (.ref pq)) 3 (.ref mq)) 4 (.ref q412)) Z B589 J K588 w := hO.to rfl
      refine W.widen (k := (1 + (rE (g 2 q4) - rS (g 2 q4)))) (n := (6 + (6 * (rE (g 2 q4) - rS (g 2 q4))))) (by show (1 + (rE (g 2 q4) - rS (g 2 q4))) + 0 ≤ (1 + (rE (g 2 q4) - rS (g 2 q4))); omega) (by show (6 + (6 * (rE (g 2 q4) - rS (g 2 q4)))) + 0 ≤ (6 + (6 * (rE (g 2 q4) - rS (g 2 q4)))); omega) ?_
      refine W.eq (g2 := F0 m 146 ls []) rfl ?_
      have hbe631 := BdE.trans hbe540 h600
      have hbb632 : Bth B B589 := Bth.trans (show Thx (upd (upd (upd (upd (upd (upd (upd (upd F 2 (nI sz)) 5 (nI cs)) 6 (nI rg)) 7 (nI hd)) 8 (nI dp)) 12 (nI vr)) 13 as9) 16 ls9) (upd (upd (upd (upd (upd (upd (upd (upd (upd (upd (upd (upd (upd (upd (upd F 2 (nI sz)) 5 (nI cs)) 6 (nI rg)) 7 (nI hd)) 8 (nI dp)) 12 (nI vr)) 13 as9) 16 ls9) 5 (nI cs486)) 6 (nI rg495)) 8 (nI dp492)) 13 (as487 &&& csv)) 14 wt488) 15 wf489) 16 ls497) B (updA B485 17 (aim ((B485 17)) xc501 cs486)) from (Thx.b (Thx.f (Thx.f (Thx.f (Thx.f (Thx.f (Thx.f (Thx.f (Bth.thx hbb541) (by omega)) (by omega)) (by omega)) (by omega)) (by omega)) (by omega)) (by omega)) (by omega) (by decide))).2 h603
      have hng633 : Nng (B589 18) := h603.2 hng542
      have hsw634 : ∀ x9 : Nat, x9 < cs → (B589 16) x9 = B 16 x9 := fun x9 hx9 => ((h599 x9 (by omega)).1).trans (hsw543 x9 hx9)
      have hsw635 : ∀ x9 : Nat, x9 < cs → (B589 17) x9 = B 17 x9 := fun x9 hx9 => ((h599 x9 (by omega)).2.1).trans (hsw570 x9 hx9)
      have hsw636 : ∀ x9 : Nat, x9 < cs → (B589 18) x9 = B 18 x9 := fun x9 hx9 => ((h599 x9 (by omega)).2.2.1).trans (hsw545 x9 hx9)
      have hsw637 : ∀ x9 : Nat, x9 < cs → (B589 19) x9 = B 19 x9 := fun x9 hx9 => ((h599 x9 (by omega)).2.2.2).trans (hsw546 x9 hx9)
      have hsx638 : ∀ x9 : Nat, x9 < cs → (B589 16) x9 = (B 16) x9 := fun x9 hx9 => ((h599 x9 (by omega)).1).trans (hsx547 x9 hx9)
      have hsx639 : ∀ x9 : Nat, x9 < cs → (B589 17) x9 = (B 17) x9 := fun x9 hx9 => ((h599 x9 (by omega)).2.1).trans (hsx571 x9 hx9)
      have hsx640 : ∀ x9 : Nat, x9 < cs → (B589 18) x9 = (B 18) x9 := fun x9 hx9 => ((h599 x9 (by omega)).2.2.1).trans (hsx549 x9 hx9)
      have hsx641 : ∀ x9 : Nat, x9 < cs → (B589 19) x9 = (B 19) x9 := fun x9 hx9 => ((h599 x9 (by omega)).2.2.2).trans (hsx550 x9 hx9)
      have hbf642 := BeF.trans hbf551 h601 hbe540
      have hbl644 : BeL K K588 lp9 := BeL.trans hbl553 (BeL.any h602) hbe540
      have hbr643 : BtR B B589 := BtR.trans (BtR.up hbr552 (by omega)) (BsR.bt h604)
      have hvs645 : VrS B B589 vr := VrS.trans hvs554 h609 (by omega)
      have hvF646 : VrS B B589 vr := VrS.trans hvF555 h609 (by omega)
      have hst647 : StW pb.1 pb.2.1 pb.2.2.1 pb.2.2.2 Ag Ag597 Q9 Q498 pd (pdm pd499 xc501) m9 dp596 lw cs cs590 as9 as591 hd hd595 sl sl598 gr gr496 (B589 16) (B589 17) (B589 18) (B589 19) ([] : List Nat) := StW.seq hst573 (by omega) (fun x9 hx9 => ⟨(h599 x9 hx9).1, (h599 x9 hx9).2.1⟩) h612
      have hsn648 := hst647.1.2.2.2.1
      have hrq649 : RgQx B589 Q498 gr496 nd := RgQx.ber h520 (BsR.rg h604 20 (by decide) (by decide)) (BsR.rg h604 21 (by decide) (by decide)) (BsR.rg h604 22 (by decide) (by decide)) (BsR.rg h604 23 (by decide) (by decide)) (BsR.rg h604 24 (by decide) (by decide))
      have hlr650 : LpR K588 lp9 rL := LpR.same hlr563 (fun lq9 e9 f9 _ _ => h602 lq9 (LpO.be hbe540 hlo lq9 e9) (fun z => by cases z) f9)
      have hj651 : (B589 16) cs = (nI 0) := ((h599 cs (by omega)).1).trans hj576
      have hj652 : Ag597 cs = (rcA as9, hd, sl, ([] : List Nat)) := (h612.2.2.1 cs (by omega)).trans hj577
      have hex653 : ExJ (B589 16) (B589 17) Ag597 x356 ex359 lw (cs + 1) cs352 hd sl wt354 wf355 := ExJ.same hex578 (fun z8 hz8 => ⟨(h599 z8 (by omega)).1, (h599 z8 (by omega)).2.1⟩) (fun z8 hz8 => h612.2.2.1 z8 (by omega))
      have hbq654 : BrJ (B589 16) (B589 17) Ag597 bv bsv xb500 lw cs590 hd sl := BrJ.same hbq579 (fun z9 hz9 => by have y9 := BrJ.lt hbq579 z9 hz9; have y8 := hgeb z9 hz9; exact ⟨(h599 z9 (by omega)).1, (h599 z9 (by omega)).2.1, h612.2.2.1 z9 (by omega)⟩) (by omega)
      have hbk655 : BeL K K588 (some q412) := BeL.trans hbk561 (BeL.any h602) hbj562
      have hbj656 : BdE K K588 := BdE.trans hbj562 h600
      have hf657 : K588.2.1 27 q412 = bv := (h602 q412 hf538 (fun z => by cases z) 27).trans hbv
      have hf658 : K588.2.1 29 q412 = bsv := (h602 q412 hf538 (fun z => by cases z) 29).trans hbsv
      refine lv_aload_n hx hb dX0_loopStatement_146 rfl (lv_at hl 5 rfl) ?_
      refine c_get (v := .ref (a 2)) (C := RX0) (Tc := TX0) (N := 13) (ci := 0) hx hb hq pin_wsX00 hown hE hP hO 24 (sg_24 G h0 a _ _ _ _ _) rfl 1 (by decide) (hq _ pw_5) (fun _ h9 => h9) rfl dX0_loopStatement_147 ?_
      refine lv_bipush (v := 6) hx hb dX0_loopStatement_150 (by decide) ?_
      refine lv_iload hx hb dX0_loopStatement_152 (lv_at hl 2 rfl) ?_
      refine lv_iconst (v := 0) hx hb dX0_loopStatement_154 (by decide) ?_
      have hO : OKW G h0 a (upd (upd (upd (upd (upd (upd (upd (upd (upd (upd (upd (upd F 2 (nI sz)) 5 (nI cs590)) 6 (nI rg495)) 7 (nI hd595)) 8 (nI dp596)) 12 (nI vr594)) 13 as591) 14 wt592) 15 wf593) 16 ls497) 5 (nI cs590)) 7 (nI hd595)) (updR (updR (updR R 2 (.ref pq)) 3 (.ref mq)) 4 (.ref q412)) Z B589 J K588.1 (fun q99 x99 => x99 = rep G a K588 q99) w := hO.to rfl
      obtain ⟨_, qr662, hqr663⟩ := hO.2.1 13 _ (sg_13 G h0 a _ _ _ _ _)
      refine pc_V0 (G := G) (As := [.int 6, .int (nI cs), .int 0]) (rest := []) hx hb hml hown hq hE hX pX0_al hP hD hS hA hl.1 (Y_emit l G h0 a (upd (upd (upd (upd (upd (upd (upd (upd (upd (upd F 2 (nI sz)) 5 (nI cs590)) 6 (nI rg495)) 7 (nI hd595)) 8 (nI dp596)) 12 (nI vr594)) 13 as591) 14 wt592) 15 wf593) 16 ls497) (updR (updR (updR R 2 (.ref pq)) 3 (.ref mq)) 4 (.ref q412)) Z B589 J K588.1 (fun q99 x99 => x99 = rep G a K588 q99) w 6 (nI cs) 0 cs590 hd595 (by omega) hO) (gV pw_129 pw_130 pw_131 pw_70 pw_115) hV_X1_emit qr662 1 hqr663 rfl rfl rfl (Nat.le_of_ble_eq_true rfl) dX0_loopStatement_155 ⟨(by show (1 + (rE (g 2 q4) - rS (g 2 q4))) + 0 ≤ ((rE (g 2 q) - rS (g 2 q)) + 1); omega), (by show (6 + (6 * (rE (g 2 q4) - rS (g 2 q4)))) + 0 ≤ (6 * (rE (g 2 q) - rS (g 2 q)) + 6); omega)⟩ ⟨(by show 2 + 1 ≤ (5 * n + 46); omega), (by show 8 + (4 + 11) + 60 ≤ (200 * n + 1120); omega)⟩ (fun v661 u659 H locs hw660 hP hD hS => ?_)
      obtain ⟨w, _⟩ := u659
      obtain ⟨hw660, hO⟩ := hw660
      obtain rfl : v661 = none := hw660
      have hO : OKP G h0 a (upd (upd (upd (upd (upd (upd (upd (upd (upd (upd F 2 (nI sz)) 5 (nI (cs590 + 1))) 6 (nI rg495)) 7 (nI hd595)) 8 (nI dp596)) 12 (nI vr594)) 13 as591) 14 wt592) 15 wf593) 16 ls497) (updR (updR (updR R 2 (.ref pq)) 3 (.ref mq)) 4 (.ref q412)) Z (updA (updA (updA (updA B589 16 (upd ((B589 16)) cs590 6)) 17 (upd ((B589 17)) cs590 (nI cs))) 18 (upd ((B589 18)) cs590 0)) 19 (upd ((B589 19)) cs590 (nI hd595))) J K588 w := hO.to rfl
      refine W.widen (k := (1 + (rE (g 2 q4) - rS (g 2 q4)))) (n := (6 + (6 * (rE (g 2 q4) - rS (g 2 q4))))) (by show (1 + (rE (g 2 q4) - rS (g 2 q4))) + 0 ≤ (1 + (rE (g 2 q4) - rS (g 2 q4))); omega) (by show (6 + (6 * (rE (g 2 q4) - rS (g 2 q4)))) + 0 ≤ (6 + (6 * (rE (g 2 q4) - rS (g 2 q4)))); omega) ?_
      refine W.eq (g2 := F0 m 158 ls []) rfl ?_
      have hsw664 : ∀ x9 : Nat, x9 < cs → (upd ((B589 16)) cs590 6) x9 = B 16 x9 := fun x9 hx9 => (if_neg (by omega)).trans (hsw634 x9 hx9)
      have hsw665 : ∀ x9 : Nat, x9 < cs → (upd ((B589 17)) cs590 (nI cs)) x9 = B 17 x9 := fun x9 hx9 => (if_neg (by omega)).trans (hsw635 x9 hx9)
      have hsw666 : ∀ x9 : Nat, x9 < cs → (upd ((B589 18)) cs590 0) x9 = B 18 x9 := fun x9 hx9 => (if_neg (by omega)).trans (hsw636 x9 hx9)
      have hsw667 : ∀ x9 : Nat, x9 < cs → (upd ((B589 19)) cs590 (nI hd595)) x9 = B 19 x9 := fun x9 hx9 => (if_neg (by omega)).trans (hsw637 x9 hx9)
      have hsx668 : ∀ x9 : Nat, x9 < cs → (upd ((B589 16)) cs590 6) x9 = (B 16) x9 := fun x9 hx9 => (if_neg (by omega)).trans (hsx638 x9 hx9)
      have hsx669 : ∀ x9 : Nat, x9 < cs → (upd ((B589 17)) cs590 (nI cs)) x9 = (B 17) x9 := fun x9 hx9 => (if_neg (by omega)).trans (hsx639 x9 hx9)
      have hsx670 : ∀ x9 : Nat, x9 < cs → (upd ((B589 18)) cs590 0) x9 = (B 18) x9 := fun x9 hx9 => (if_neg (by omega)).trans (hsx640 x9 hx9)
      have hsx671 : ∀ x9 : Nat, x9 < cs → (upd ((B589 19)) cs590 (nI hd595)) x9 = (B 19) x9 := fun x9 hx9 => (if_neg (by omega)).trans (hsx641 x9 hx9)
      obtain ⟨Ag672, hst673, hag674⟩ : ∃ A5 : Nat → AS, StW pb.1 pb.2.1 pb.2.2.1 pb.2.2.2 Ag A5 Q9 Q498 pd (pdm pd499 xc501) m9 dp596 lw cs (cs590 + 1) as9 (-1) hd hd595 sl sl598 gr gr496 (upd ((B589 16)) cs590 6) (upd ((B589 17)) cs590 (nI cs)) (upd ((B589 18)) cs590 0) (upd ((B589 19)) cs590 (nI hd595)) ([] : List Nat) ∧ ∀ x9 : Nat, x9 ≤ cs590 → A5 x9 = Ag597 x9 := ⟨(upS Ag597 (cs590 + 1) (rcA (-1), hd595, sl598, ([] : List Nat))), StW.back hst647 ⟨by omega, by omega⟩ hj651 (fun z9 => by rw [hj652]; exact ⟨rcA_1 (hst647.2.2.2.2.2.1 z9), hst647.2.2.2.2.2.2.1.1, fun s9 hs9 => (hst647.2.2.2.2.2.2.1.2 s9 hs9).symm, trivial⟩), fun x9 hx9 => upS_ne (by omega)⟩
      have hng675 : Nng (upd ((B589 18)) cs590 0) := Nng.set hng633 (k := 0) (by omega)
      have hj676 : (upd ((B589 16)) cs590 6) cs = (nI 0) := (if_neg (by omega)).trans hj651
      have hj677 : Ag672 cs = (rcA as9, hd, sl, ([] : List Nat)) := (hag674 cs (by omega)).trans hj652
      have hex678 : ExJ (upd ((B589 16)) cs590 6) (upd ((B589 17)) cs590 (nI cs)) Ag672 x356 ex359 lw (cs + 1) cs352 hd sl wt354 wf355 := ExJ.same hex653 (fun z8 hz8 => ⟨if_neg (by omega), if_neg (by omega)⟩) (fun z8 hz8 => hag674 z8 (by omega))
      have hbq679 : BrJ (upd ((B589 16)) cs590 6) (upd ((B589 17)) cs590 (nI cs)) Ag672 bv bsv xb500 lw (cs590 + 1) hd sl := BrJ.same hbq654 (fun z9 hz9 => by have y9 := BrJ.lt hbq654 z9 hz9; have y8 := hgeb z9 hz9; exact ⟨if_neg (by omega), if_neg (by omega), hag674 z9 (by omega)⟩) (by omega)
      refine lv_aload_n hx hb dX0_loopStatement_158 rfl (lv_at hl 5 rfl) ?_
      refine c_get (v := .ref (a 2)) (C := RX0) (Tc := TX0) (N := 13) (ci := 0) hx hb hq pin_wsX00 hown hE hP hO 24 (sg_24 G h0 a _ _ _ _ _) rfl 1 (by decide) (hq _ pw_5) (fun _ h9 => h9) rfl dX0_loopStatement_159 ?_
      refine lv_iload hx hb dX0_loopStatement_162 (lv_at hl 1 rfl) ?_
      have hO : OKW G h0 a (upd (upd (upd (upd (upd (upd (upd (upd (upd (upd (upd F 2 (nI sz)) 5 (nI (cs590 + 1))) 6 (nI rg495)) 7 (nI hd595)) 8 (nI dp596)) 12 (nI vr594)) 13 as591) 14 wt592) 15 wf593) 16 ls497) 5 (nI (cs590 + 1))) (updR (updR (updR R 2 (.ref pq)) 3 (.ref mq)) 4 (.ref q412)) Z (updA (updA (updA (updA B589 16 (upd ((B589 16)) cs590 6)) 17 (upd ((B589 17)) cs590 (nI cs))) 18 (upd ((B589 18)) cs590 0)) 19 (upd ((B589 19)) cs590 (nI hd595))) J K588.1 (fun q99 x99 => x99 = rep G a K588 q99) w := hO.to rfl
      obtain ⟨_, qr683, hqr684⟩ := hO.2.1 13 _ (sg_13 G h0 a _ _ _ _ _)
      refine pc_V0 (G := G) (As := [.int x356]) (rest := []) hx hb hml hown hq hE hX pX0_al hP hD hS hA hl.1 (Y_land l G h0 a (upd (upd (upd (upd (upd (upd (upd (upd (upd (upd F 2 (nI sz)) 5 (nI (cs590 + 1))) 6 (nI rg495)) 7 (nI hd595)) 8 (nI dp596)) 12 (nI vr594)) 13 as591) 14 wt592) 15 wf593) 16 ls497) (updR (updR (updR R 2 (.ref pq)) 3 (.ref mq)) 4 (.ref q412)) Z (updA (updA (updA (updA B589 16 (upd ((B589 16)) cs590 6)) 17 (upd ((B589 17)) cs590 (nI cs))) 18 (upd ((B589 18)) cs590 0)) 19 (upd ((B589 19)) cs590 (nI hd595))) J K588.1 (fun q99 x99 => x99 = rep G a K588 q99) w x356 (cs590 + 1) ex359 (by omega) (ExJ.chn hex678) (fun y9 hy9 => by have v9 := (ExJ.rng hex678 y9 hy9).2; omega) hO) (gV pw_200 pw_201 pw_202 pw_70 pw_134) hV_X1_land qr683 1 hqr684 rfl rfl rfl (Nat.le_of_ble_eq_true rfl) dX0_loopStatement_164 ⟨(by show (1 + (rE (g 2 q4) - rS (g 2 q4))) + 0 ≤ ((rE (g 2 q) - rS (g 2 q)) + 1); omega), (by show (6 + (6 * (rE (g 2 q4) - rS (g 2 q4)))) + 0 ≤ (6 * (rE (g 2 q) - rS (g 2 q)) + 6); omega)⟩ ⟨(by show 2 + 1 ≤ (5 * n + 46); omega), (by show 8 + (5 + 11) + 60 ≤ (200 * n + 1120); omega)⟩ (fun v682 u680 H locs hw681 hP hD hS => ?_)
      obtain ⟨w, _⟩ := u680
      obtain ⟨hw681, hO⟩ := hw681
      obtain rfl : v682 = none := hw681
      have hO : OKP G h0 a (upd (upd (upd (upd (upd (upd (upd (upd (upd (upd F 2 (nI sz)) 5 (nI (cs590 + 1))) 6 (nI rg495)) 7 (nI hd595)) 8 (nI dp596)) 12 (nI vr594)) 13 as591) 14 wt592) 15 wf593) 16 ls497) (updR (updR (updR R 2 (.ref pq)) 3 (.ref mq)) 4 (.ref q412)) Z (updA (updA (updA (updA B589 16 (upd ((B589 16)) cs590 6)) 17 (aim ((upd ((B589 17)) cs590 (nI cs))) ex359 (cs590 + 1))) 18 (upd ((B589 18)) cs590 0)) 19 (upd ((B589 19)) cs590 (nI hd595))) J K588 w := hO.to rfl
      refine W.widen (k := (1 + (rE (g 2 q4) - rS (g 2 q4)))) (n := (6 + (6 * (rE (g 2 q4) - rS (g 2 q4))))) (by show (1 + (rE (g 2 q4) - rS (g 2 q4))) + 0 ≤ (1 + (rE (g 2 q4) - rS (g 2 q4))); omega) (by show (6 + (6 * (rE (g 2 q4) - rS (g 2 q4)))) + 0 ≤ (6 + (6 * (rE (g 2 q4) - rS (g 2 q4)))); omega) ?_
      refine W.eq (g2 := F0 m 167 ls []) rfl ?_
      have hsw685 : ∀ x9 : Nat, x9 < cs → (aim ((upd ((B589 17)) cs590 (nI cs))) ex359 (cs590 + 1)) x9 = B 17 x9 := fun x9 hx9 => (aim_no (fun q9 => by have e9 := (fun z9 hz9 => (ExJ.rng hex678 z9 hz9).1) x9 q9; omega)).trans (hsw665 x9 hx9)
      have hsx686 : ∀ x9 : Nat, x9 < cs → (aim ((upd ((B589 17)) cs590 (nI cs))) ex359 (cs590 + 1)) x9 = (B 17) x9 := fun x9 hx9 => (aim_no (fun q9 => by have e9 := (fun z9 hz9 => (ExJ.rng hex678 z9 hz9).1) x9 q9; omega)).trans (hsx669 x9 hx9)
      obtain ⟨Ag687, hst688, hag689⟩ : ∃ A5 : Nat → AS, StW pb.1 pb.2.1 pb.2.2.1 pb.2.2.2 Ag A5 Q9 Q498 pd (pdm (pdm pd499 xc501) ex359) m9 dp596 lw cs (cs590 + 1) as9 wf355 hd hd sl sl gr gr496 (upd ((B589 16)) cs590 6) (aim ((upd ((B589 17)) cs590 (nI cs))) ex359 (cs590 + 1)) (upd ((B589 18)) cs590 0) (upd ((B589 19)) cs590 (nI hd595)) ([] : List Nat) ∧ ∀ x9 : Nat, x9 < (cs590 + 1) → A5 x9 = Ag672 x9 := ⟨(upS Ag672 (cs590 + 1) (rcA wf355, hd, sl, ([] : List Nat))), StW.exit hst673 (ExJ.dn hex678 (by omega)) (by omega) (by omega) h368 hwfF (by omega), fun x9 hx9 => upS_ne (by omega)⟩
      have hen690 := EnV.back hen hvs645
      have hj691 : (upd ((B589 16)) cs590 6) cs = (nI 0) := (rfl).trans hj676
      have hj692 : Ag687 cs = (rcA as9, hd, sl, ([] : List Nat)) := (hag689 cs (by omega)).trans hj677
      have hbq693 : BrJ (upd ((B589 16)) cs590 6) (aim ((upd ((B589 17)) cs590 (nI cs))) ex359 (cs590 + 1)) Ag687 bv bsv xb500 lw (cs590 + 1) hd sl := BrJ.same hbq679 (fun z9 hz9 => by have y9 := BrJ.lt hbq679 z9 hz9; have y8 := hgeb z9 hz9; exact ⟨rfl, aim_no (fun q9 => by have e9 := (ExJ.rng hex678 z9 q9); omega), hag689 z9 (by omega)⟩) (by omega)
      refine lv_aload_n hx hb dX0_loopStatement_167 rfl (lv_at hl 5 rfl) ?_
      refine c_get (v := .ref (a 2)) (C := RX0) (Tc := TX0) (N := 13) (ci := 0) hx hb hq pin_wsX00 hown hE hP hO 24 (sg_24 G h0 a _ _ _ _ _) rfl 1 (by decide) (hq _ pw_5) (fun _ h9 => h9) rfl dX0_loopStatement_168 ?_
      refine lv_aload_n hx hb dX0_loopStatement_171 rfl (lv_at hl 5 rfl) ?_
      refine c_get (v := .ref q412) (C := RX0) (Tc := TX0) (N := 13) (ci := 0) hx hb hq pin_wsX00 hown hE hP hO 24 (sg_24 G h0 a _ _ _ _ _) rfl 11 (by decide) (hq _ pw_73) (fun _ h9 => h9) rfl dX0_loopStatement_172 ?_
      refine p_get (v := .int bv) (C := RX4) (Tc := TX4) (N := 6) (ci := 11) hx hb hq pin_wsX40 hown hE hP hO (by rw [hf629]; decide) (rep_9 hf629) rfl 2 (by decide) (hq _ pw_282) (fun _ h9 => h9) (congrArg (fun z => some (Value.int z)) hf657) dX0_loopStatement_175 ?_
      have hao694 := AsO.and h367.2.2 hi5
      have hO : OKW G h0 a (upd (upd (upd (upd (upd (upd (upd (upd (upd (upd (upd F 2 (nI sz)) 5 (nI (cs590 + 1))) 6 (nI rg495)) 7 (nI hd595)) 8 (nI dp596)) 12 (nI vr594)) 13 as591) 14 wt592) 15 wf593) 16 ls497) 5 (nI (cs590 + 1))) (updR (updR (updR R 2 (.ref pq)) 3 (.ref mq)) 4 (.ref q412)) Z (updA (updA (updA (updA B589 16 (upd ((B589 16)) cs590 6)) 17 (aim ((upd ((B589 17)) cs590 (nI cs))) ex359 (cs590 + 1))) 18 (upd ((B589 18)) cs590 0)) 19 (upd ((B589 19)) cs590 (nI hd595))) J K588.1 (fun q99 x99 => x99 = rep G a K588 q99) w := hO.to rfl
      obtain ⟨_, qr698, hqr699⟩ := hO.2.1 13 _ (sg_13 G h0 a _ _ _ _ _)
      refine pc_V0 (G := G) (As := [.int bv]) (rest := []) hx hb hml hown hq hE hX pX0_al hP hD hS hA hl.1 (Y_land l G h0 a (upd (upd (upd (upd (upd (upd (upd (upd (upd (upd F 2 (nI sz)) 5 (nI (cs590 + 1))) 6 (nI rg495)) 7 (nI hd595)) 8 (nI dp596)) 12 (nI vr594)) 13 as591) 14 wt592) 15 wf593) 16 ls497) (updR (updR (updR R 2 (.ref pq)) 3 (.ref mq)) 4 (.ref q412)) Z (updA (updA (updA (updA B589 16 (upd ((B589 16)) cs590 6)) 17 (aim ((upd ((B589 17)) cs590 (nI cs))) ex359 (cs590 + 1))) 18 (upd ((B589 18)) cs590 0)) 19 (upd ((B589 19)) cs590 (nI hd595))) J K588.1 (fun q99 x99 => x99 = rep G a K588 q99) w bv (cs590 + 1) xb500 (by omega) hbq693.1 (BrJ.lt hbq693) hO) (gV pw_200 pw_201 pw_202 pw_70 pw_134) hV_X1_land qr698 1 hqr699 rfl rfl rfl (Nat.le_of_ble_eq_true rfl) dX0_loopStatement_178 ⟨(by show (1 + (rE (g 2 q4) - rS (g 2 q4))) + 0 ≤ ((rE (g 2 q) - rS (g 2 q)) + 1); omega), (by show (6 + (6 * (rE (g 2 q4) - rS (g 2 q4)))) + 0 ≤ (6 * (rE (g 2 q) - rS (g 2 q)) + 6); omega)⟩ ⟨(by show 2 + 1 ≤ (5 * n + 46); omega), (by show 8 + (5 + 11) + 60 ≤ (200 * n + 1120); omega)⟩ (fun v697 u695 H locs hw696 hP hD hS => ?_)
      obtain ⟨w, _⟩ := u695
      obtain ⟨hw696, hO⟩ := hw696
      obtain rfl : v697 = none := hw696
      have hO : OKP G h0 a (upd (upd (upd (upd (upd (upd (upd (upd (upd (upd F 2 (nI sz)) 5 (nI (cs590 + 1))) 6 (nI rg495)) 7 (nI hd595)) 8 (nI dp596)) 12 (nI vr594)) 13 as591) 14 wt592) 15 wf593) 16 ls497) (updR (updR (updR R 2 (.ref pq)) 3 (.ref mq)) 4 (.ref q412)) Z (updA (updA (updA (updA B589 16 (upd ((B589 16)) cs590 6)) 17 (aim ((aim ((upd ((B589 17)) cs590 (nI cs))) ex359 (cs590 + 1))) xb500 (cs590 + 1))) 18 (upd ((B589 18)) cs590 0)) 19 (upd ((B589 19)) cs590 (nI hd595))) J K588 w := hO.to rfl
      refine W.widen (k := (1 + (rE (g 2 q4) - rS (g 2 q4)))) (n := (6 + (6 * (rE (g 2 q4) - rS (g 2 q4))))) (by show (1 + (rE (g 2 q4) - rS (g 2 q4))) + 0 ≤ (1 + (rE (g 2 q4) - rS (g 2 q4))); omega) (by show (6 + (6 * (rE (g 2 q4) - rS (g 2 q4)))) + 0 ≤ (6 + (6 * (rE (g 2 q4) - rS (g 2 q4)))); omega) ?_
      refine W.eq (g2 := F0 m 181 ls []) rfl ?_
      have hsw700 : ∀ x9 : Nat, x9 < cs → (aim ((aim ((upd ((B589 17)) cs590 (nI cs))) ex359 (cs590 + 1))) xb500 (cs590 + 1)) x9 = B 17 x9 := fun x9 hx9 => (aim_no (fun q9 => by have e9 := hgeb x9 q9; omega)).trans (hsw685 x9 hx9)
      have hsx701 : ∀ x9 : Nat, x9 < cs → (aim ((aim ((upd ((B589 17)) cs590 (nI cs))) ex359 (cs590 + 1))) xb500 (cs590 + 1)) x9 = (B 17) x9 := fun x9 hx9 => (aim_no (fun q9 => by have e9 := hgeb x9 q9; omega)).trans (hsx686 x9 hx9)
      obtain ⟨Ag702, hst703, hag704⟩ : ∃ A5 : Nat → AS, StW pb.1 pb.2.1 pb.2.2.1 pb.2.2.2 Ag A5 Q9 Q498 pd (pdm (pdm (pdm pd499 xc501) ex359) xb500) m9 dp596 lw cs (cs590 + 1) as9 (wf355 &&& bsv) hd hd sl sl gr gr496 (upd ((B589 16)) cs590 6) (aim ((aim ((upd ((B589 17)) cs590 (nI cs))) ex359 (cs590 + 1))) xb500 (cs590 + 1)) (upd ((B589 18)) cs590 0) (upd ((B589 19)) cs590 (nI hd595)) ([] : List Nat) ∧ ∀ x9 : Nat, x9 < (cs590 + 1) → A5 x9 = Ag687 x9 := ⟨(upS Ag687 (cs590 + 1) (rcA (wf355 &&& bsv), hd, sl, ([] : List Nat))), StW.lnd (bs := bsv) hst688 (fun z9 hz9 => ⟨⟨hi7 z9 hz9, fun q9 => hidis z9 hz9 q9⟩, fun q9 => by have y9 := hgeb z9 hz9; have y8 := (ExJ.rng hex678 z9 q9).2; omega⟩) hbq693.2 (fun z9 => and_n2 z9) (fun z9 => and_n1 z9) (fun z9 hz9 => by have y9 := hgeb z9 hz9; omega) ⟨by omega, by omega⟩ (fun z9 e9 => z9 (and_m1.mpr ⟨Classical.byContradiction fun y9 => h368 y9 e9, Classical.byContradiction fun y9 => hlri.1 y9 e9⟩)) hwfF (by omega), fun x9 hx9 => upS_ne (by omega)⟩
      have hj705 : (upd ((B589 16)) cs590 6) cs = (nI 0) := (rfl).trans hj691
      have hj706 : Ag702 cs = (rcA as9, hd, sl, ([] : List Nat)) := (hag704 cs (by omega)).trans hj692
      refine lv_aload_n hx hb dX0_loopStatement_181 rfl (lv_at hl 5 rfl) ?_
      refine lv_iload hx hb dX0_loopStatement_182 (lv_at hl 0 rfl) ?_
      refine lv_aload_n hx hb dX0_loopStatement_184 rfl (lv_at hl 5 rfl) ?_
      refine c_get (v := .ref q412) (C := RX0) (Tc := TX0) (N := 13) (ci := 0) hx hb hq pin_wsX00 hown hE hP hO 24 (sg_24 G h0 a _ _ _ _ _) rfl 11 (by decide) (hq _ pw_73) (fun _ h9 => h9) rfl dX0_loopStatement_185 ?_
      refine p_get (v := .int bsv) (C := RX4) (Tc := TX4) (N := 6) (ci := 11) hx hb hq pin_wsX40 hown hE hP hO (by rw [hf629]; decide) (rep_9 hf629) rfl 4 (by decide) (hq _ pw_283) (fun _ h9 => h9) (congrArg (fun z => some (Value.int z)) hf658) dX0_loopStatement_188 ?_
      refine lv_iand hx hb dX0_loopStatement_191 ?_
      refine lv_topi (fun x707 e708 => ?_)
      obtain rfl : x707 = (wf355 &&& bsv) := e708
      refine c_put (v := .int (wf355 &&& bsv)) (ty := .int) (C := RX0) (Tc := TX0) (N := 13) (ci := 0) hx hb hq pin_wsX00 tyX0 tyX0_ok nmX0 hown hE hP hD hS hO 24 (sg_24 G h0 a _ _ _ _ _) rfl 8 (by decide) (hq _ pw_55) (fun _ h9 => h9) rfl (by decide +kernel) rfl rfl (Nat.le_of_ble_eq_true rfl) (sf_13 G h0 a _ _ _ _ _ (wf355 &&& bsv)) dX0_loopStatement_192 (fun H locs w hP hD hS hO => ?_)
      refine lv_aload_n hx hb dX0_loopStatement_195 rfl (lv_at hl 5 rfl) ?_
      refine lv_aload_n hx hb dX0_loopStatement_196 rfl (lv_at hl 5 rfl) ?_
      refine c_get (v := .ref q412) (C := RX0) (Tc := TX0) (N := 13) (ci := 0) hx hb hq pin_wsX00 hown hE hP hO 24 (sg_24 G h0 a _ _ _ _ _) rfl 11 (by decide) (hq _ pw_73) (fun _ h9 => h9) rfl dX0_loopStatement_197 ?_
      refine p_get (v := va_rf lp9) (C := RX4) (Tc := TX4) (N := 6) (ci := 11) hx hb hq pin_wsX40 hown hE hP hO (by rw [hf629]; decide) (rep_9 hf629) rfl 0 (by decide) (hq _ pw_317) (fun _ h9 => h9) (congrArg (fun z => some (va_rf z)) hf630) dX0_loopStatement_200 ?_
      refine c_put (v := va_rf lp9) (ty := (.object "JinjaTongue$Loop")) (C := RX0) (Tc := TX0) (N := 13) (ci := 0) hx hb hq pin_wsX00 tyX0 tyX0_ok nmX0 hown hE hP hD hS hO 24 (sg_24 G h0 a _ _ _ _ _) rfl 11 (by decide) (hq _ pw_73) (fun _ h9 => h9) rfl (by decide +kernel) (by cases lp9 <;> first | rfl | exact Nat.le_of_ble_eq_true rfl) (by cases lp9 <;> first | rfl | exact Nat.le_of_ble_eq_true rfl) (by cases lp9 <;> first | rfl | exact Nat.le_of_ble_eq_true rfl) (sr_4 G h0 a _ _ _ _ _ (va_rf lp9)) dX0_loopStatement_203 (fun H locs w hP hD hS hO => ?_)
      refine lv_aload_n hx hb dX0_loopStatement_206 rfl (lv_at hl 5 rfl) ?_
      refine lv_iload_n hx hb dX0_loopStatement_207 rfl (lv_at hl 4 rfl) ?_
      refine lv_iload_n hx hb dX0_loopStatement_208 rfl (lv_at hl 3 rfl) ?_
      have hstL : StW pb.1 pb.2.1 pb.2.2.1 pb.2.2.2 Ag Ag702 Q9 Q498 pd (pdm (pdm (pdm pd499 xc501) ex359) xb500) m9 dp596 lw cs (cs590 + 1) as9 (wf355 &&& bsv) hd hd sl sl gr gr496 (upd ((B589 16)) cs590 6) (aim ((aim ((upd ((B589 17)) cs590 (nI cs))) ex359 (cs590 + 1))) xb500 (cs590 + 1)) (upd ((B589 18)) cs590 0) (upd ((B589 19)) cs590 (nI hd595)) ([] : List Nat) := StW.seq hst0 (by omega) (fun x9 hx9 => ⟨hsx668 x9 hx9, hsx701 x9 hx9⟩) hst703
      have hpdL : PdS pd (pdm (pdm (pdm pd499 xc501) ex359) xb500) xb xb xc xc ([] : List Nat) cs (cs590 + 1) := PdS.loop (PdS.rfl (cs1 := cs)) hlp.1 h371 (fun z9 hz9 => by have y9 := (ExJ.rng hex678 z9 hz9).1; omega) hpdi (by omega) (by omega)
      have hlpL : LpS K588 (upd ((B589 16)) cs590 6) (aim ((aim ((upd ((B589 17)) cs590 (nI cs))) ex359 (cs590 + 1))) xb500 (cs590 + 1)) Ag702 (pdm (pdm (pdm pd499 xc501) ex359) xb500) lp9 lw (cs590 + 1) hd sl hdL slL xb xc := LpS.same hlp (fun lq9 e9 f9 _ _ => hbk655 lq9 (LpO.be BdE.rfl hlo lq9 e9) (fun z => by have y9 := hlo lq9 e9; have v9 := Option.some.inj z; rw [← v9, hinn] at y9; exact absurd y9 (by decide)) f9) (fun z9 hz9 => ⟨hsx668 z9 hz9, hsx701 z9 hz9, hst703.2.2.1 z9 (by omega)⟩) (fun z9 h9 => ⟨⟨⟨hpdi.1 z9 ((h371 z9).mpr (Or.inl h9)), fun q9 => by have y9 := hgec z9 q9; have y8 := hlp.1 z9 h9; omega⟩, fun q9 => by have y9 := (ExJ.rng hex678 z9 q9).1; have y8 := hlp.1 z9 h9; omega⟩, fun q9 => by have y9 := hgeb z9 q9; have y8 := hlp.1 z9 h9; omega⟩) (fun z9 h9 => by have v9 := hlpi.1 z9 h9.1.1.1; omega) (by omega) hst703.2.2.2.2.2.2.1
      have hO : OKW G h0 a (upd (upd (upd (upd (upd (upd (upd (upd (upd (upd F 2 (nI sz)) 5 (nI (cs590 + 1))) 6 (nI rg495)) 7 (nI hd595)) 8 (nI dp596)) 12 (nI vr594)) 13 (wf355 &&& bsv)) 14 wt592) 15 wf593) 16 ls497) (updR (updR (updR R 2 (.ref pq)) 3 (.ref mq)) 4 (va_rf lp9)) Z (updA (updA (updA (updA B589 16 (upd ((B589 16)) cs590 6)) 17 (aim ((aim ((upd ((B589 17)) cs590 (nI cs))) ex359 (cs590 + 1))) xb500 (cs590 + 1))) 18 (upd ((B589 18)) cs590 0)) 19 (upd ((B589 19)) cs590 (nI hd595))) J K588.1 (fun q99 x99 => x99 = rep G a K588 q99) w := hO.to rfl
      obtain ⟨_, qr712, hqr713⟩ := hO.2.1 24 _ (sg_24 G h0 a _ _ _ _ _)
      refine pc_V0 (G := G) (As := [.int (nI vr), .int (nI hd)]) (rest := []) hx hb hml hown hq hE hX pX0_al hP hD hS hA hl.1 (B_endScope l G h0 a (upd (upd (upd (upd (upd (upd (upd (upd (upd (upd F 2 (nI sz)) 5 (nI (cs590 + 1))) 6 (nI rg495)) 7 (nI hd595)) 8 (nI dp596)) 12 (nI vr594)) 13 (wf355 &&& bsv)) 14 wt592) 15 wf593) 16 ls497) (updR (updR (updR R 2 (.ref pq)) 3 (.ref mq)) 4 (va_rf lp9)) Z (updA (updA (updA (updA B589 16 (upd ((B589 16)) cs590 6)) 17 (aim ((aim ((upd ((B589 17)) cs590 (nI cs))) ex359 (cs590 + 1))) xb500 (cs590 + 1))) 18 (upd ((B589 18)) cs590 0)) 19 (upd ((B589 19)) cs590 (nI hd595))) J K588.1 (fun q99 x99 => x99 = rep G a K588 q99) w (nI vr) (nI hd) hO) (gV pw_303 pw_304 pw_305 pw_63 pw_99) hV_X0_endScope qr712 0 hqr713 rfl rfl rfl (Nat.le_of_ble_eq_true rfl) dX0_loopStatement_209 ⟨(by show (1 + (rE (g 2 q4) - rS (g 2 q4))) + 0 ≤ ((rE (g 2 q) - rS (g 2 q)) + 1); omega), (by show (6 + (6 * (rE (g 2 q4) - rS (g 2 q4)))) + 0 ≤ (6 * (rE (g 2 q) - rS (g 2 q)) + 6); omega)⟩ ⟨(by show 2 + 1 ≤ (5 * n + 46); omega), (by show 8 + (3 + 11) + 60 ≤ (200 * n + 1120); omega)⟩ (fun v711 u709 H locs hw710 hP hD hS => ?_)
      obtain ⟨w, _⟩ := u709
      obtain ⟨hw710, hO⟩ := hw710
      obtain rfl : v711 = none := hw710
      have hO : OKP G h0 a (upd (upd (upd (upd (upd (upd (upd (upd (upd (upd F 2 (nI sz)) 5 (nI (cs590 + 1))) 6 (nI rg495)) 7 (nI hd)) 8 (nI dp596)) 12 (nI vr)) 13 (wf355 &&& bsv)) 14 wt592) 15 wf593) 16 ls497) (updR (updR (updR R 2 (.ref pq)) 3 (.ref mq)) 4 (va_rf lp9)) Z (updA (updA (updA (updA B589 16 (upd ((B589 16)) cs590 6)) 17 (aim ((aim ((upd ((B589 17)) cs590 (nI cs))) ex359 (cs590 + 1))) xb500 (cs590 + 1))) 18 (upd ((B589 18)) cs590 0)) 19 (upd ((B589 19)) cs590 (nI hd595))) J K588 w := hO.to rfl
      refine W.widen (k := (1 + (rE (g 2 q4) - rS (g 2 q4)))) (n := (6 + (6 * (rE (g 2 q4) - rS (g 2 q4))))) (by show (1 + (rE (g 2 q4) - rS (g 2 q4))) + 0 ≤ (1 + (rE (g 2 q4) - rS (g 2 q4))); omega) (by show (6 + (6 * (rE (g 2 q4) - rS (g 2 q4)))) + 0 ≤ (6 + (6 * (rE (g 2 q4) - rS (g 2 q4)))); omega) ?_
      refine W.eq (g2 := F0 m 212 ls []) rfl ?_
      obtain ⟨Ag714, hst715, hag716⟩ : ∃ A5 : Nat → AS, StW pb.1 pb.2.1 pb.2.2.1 pb.2.2.2 Ag A5 Q9 Q498 pd (pdm (pdm (pdm pd499 xc501) ex359) xb500) m9 dp596 lw cs (cs590 + 1) as9 (wf355 &&& bsv) hd hd sl sl gr gr496 (upd ((B589 16)) cs590 6) (aim ((aim ((upd ((B589 17)) cs590 (nI cs))) ex359 (cs590 + 1))) xb500 (cs590 + 1)) (upd ((B589 18)) cs590 0) (upd ((B589 19)) cs590 (nI hd595)) ([] : List Nat) ∧ ∀ x9 : Nat, x9 < (cs590 + 1) → A5 x9 = Ag702 x9 := StW.scope2 hstL (Or.inl (by omega)) (by omega) hwfa (by omega)
      have hlp717 : LpS K588 (upd ((B589 16)) cs590 6) (aim ((aim ((upd ((B589 17)) cs590 (nI cs))) ex359 (cs590 + 1))) xb500 (cs590 + 1)) Ag714 (pdm (pdm (pdm pd499 xc501) ex359) xb500) lp9 lw (cs590 + 1) hd sl hdL slL xb xc := LpS.same (LpS.to hlpL hlp) (fun _ _ _ _ _ => rfl) (fun z9 hz9 => ⟨rfl, rfl, hag716 z9 hz9⟩) (fun _ h9 => h9) hlpL.1 (Nat.le_refl _) ⟨Nat.le_refl _, fun _ _ => rfl⟩
      have hen718 : EnV (B589 26) (B589 27) nd vr hd c0 sl := EnV.back hen hvs645
      refine W_size (fun hz1 hz2 => ?_)
      refine vx_ret ?_
      have hz719 : SmW B (updA (updA (updA (updA B589 16 (upd ((B589 16)) cs590 6)) 17 (aim ((aim ((upd ((B589 17)) cs590 (nI cs))) ex359 (cs590 + 1))) xb500 (cs590 + 1))) 18 (upd ((B589 18)) cs590 0)) 19 (upd ((B589 19)) cs590 (nI hd595))) cs := (fun x9 hx9 => ⟨hsw664 x9 hx9, hsw700 x9 hx9, hsw666 x9 hx9, hsw667 x9 hx9⟩)
      have hz720 : BdE K K588 := hbe631
      have hz721 : BeF K K588 := hbf642
      have hz722 : BeL K K588 lp9 := hbl644
      have hz723 : Bth B (updA (updA (updA (updA B589 16 (upd ((B589 16)) cs590 6)) 17 (aim ((aim ((upd ((B589 17)) cs590 (nI cs))) ex359 (cs590 + 1))) xb500 (cs590 + 1))) 18 (upd ((B589 18)) cs590 0)) 19 (upd ((B589 19)) cs590 (nI hd595))) := (show Thx (upd (upd (upd (upd (upd (upd (upd (upd F 2 (nI sz)) 5 (nI cs)) 6 (nI rg)) 7 (nI hd)) 8 (nI dp)) 12 (nI vr)) 13 as9) 16 ls9) (upd (upd (upd (upd (upd (upd (upd (upd (upd (upd (upd (upd (upd (upd (upd F 2 (nI sz)) 5 (nI cs)) 6 (nI rg)) 7 (nI hd)) 8 (nI dp)) 12 (nI vr)) 13 as9) 16 ls9) 5 (nI (cs590 + 1))) 6 (nI rg495)) 8 (nI dp596)) 13 (wf355 &&& bsv)) 14 wt592) 15 wf593) 16 ls497) B (updA (updA (updA (updA B589 16 (upd ((B589 16)) cs590 6)) 17 (aim ((aim ((upd ((B589 17)) cs590 (nI cs))) ex359 (cs590 + 1))) xb500 (cs590 + 1))) 18 (upd ((B589 18)) cs590 0)) 19 (upd ((B589 19)) cs590 (nI hd595))) from (Thx.b (Thx.b8 (Thx.b (Thx.b (Thx.f (Thx.f (Thx.f (Thx.f (Thx.f (Thx.f (Thx.f (Bth.thx hbb632) (by omega)) (by omega)) (by omega)) (by omega)) (by omega)) (by omega)) (by omega)) (by omega) (by decide)) (by omega) (by decide)) hng675) (by omega) (by decide))).2
      have hz724 : BtR B (updA (updA (updA (updA B589 16 (upd ((B589 16)) cs590 6)) 17 (aim ((aim ((upd ((B589 17)) cs590 (nI cs))) ex359 (cs590 + 1))) xb500 (cs590 + 1))) 18 (upd ((B589 18)) cs590 0)) 19 (upd ((B589 19)) cs590 (nI hd595))) := (BtR.up (BtR.up (BtR.up (BtR.up hbr643 (by omega)) (by omega)) (by omega)) (by omega))
      have hz725 : cs ≤ (cs590 + 1) ∧ (cs590 + 1) + 1 ≤ cs + 2 * tlE g q := (by omega)
      have hz726 : dp ≤ dp596 ∧ dp596 ≤ 71 := (by omega)
      have hz727 : AsO (wf355 &&& bsv) := hao694
      have hz728 : VrS B (updA (updA (updA (updA B589 16 (upd ((B589 16)) cs590 6)) 17 (aim ((aim ((upd ((B589 17)) cs590 (nI cs))) ex359 (cs590 + 1))) xb500 (cs590 + 1))) 18 (upd ((B589 18)) cs590 0)) 19 (upd ((B589 19)) cs590 (nI hd595))) vr := hvs645
      have hz729 : gr ≤ gr496 ∧ rg495 ≤ 625 ∧ rg495 ≤ gr496 ∧ (rg495 = 625 ∨ rg495 = gr496) := (by omega)
      have hz730 : EnV ((updA (updA (updA (updA B589 16 (upd ((B589 16)) cs590 6)) 17 (aim ((aim ((upd ((B589 17)) cs590 (nI cs))) ex359 (cs590 + 1))) xb500 (cs590 + 1))) 18 (upd ((B589 18)) cs590 0)) 19 (upd ((B589 19)) cs590 (nI hd595))) 26) ((updA (updA (updA (updA B589 16 (upd ((B589 16)) cs590 6)) 17 (aim ((aim ((upd ((B589 17)) cs590 (nI cs))) ex359 (cs590 + 1))) xb500 (cs590 + 1))) 18 (upd ((B589 18)) cs590 0)) 19 (upd ((B589 19)) cs590 (nI hd595))) 27) nd vr hd c0 sl := hen718
      have hz731 : StW pb.1 pb.2.1 pb.2.2.1 pb.2.2.2 Ag Ag714 Q9 Q498 pd (pdm (pdm (pdm pd499 xc501) ex359) xb500) m9 dp596 lw cs (cs590 + 1) as9 (wf355 &&& bsv) hd hd sl sl gr gr496 ((updA (updA (updA (updA B589 16 (upd ((B589 16)) cs590 6)) 17 (aim ((aim ((upd ((B589 17)) cs590 (nI cs))) ex359 (cs590 + 1))) xb500 (cs590 + 1))) 18 (upd ((B589 18)) cs590 0)) 19 (upd ((B589 19)) cs590 (nI hd595))) 16) ((updA (updA (updA (updA B589 16 (upd ((B589 16)) cs590 6)) 17 (aim ((aim ((upd ((B589 17)) cs590 (nI cs))) ex359 (cs590 + 1))) xb500 (cs590 + 1))) 18 (upd ((B589 18)) cs590 0)) 19 (upd ((B589 19)) cs590 (nI hd595))) 17) ((updA (updA (updA (updA B589 16 (upd ((B589 16)) cs590 6)) 17 (aim ((aim ((upd ((B589 17)) cs590 (nI cs))) ex359 (cs590 + 1))) xb500 (cs590 + 1))) 18 (upd ((B589 18)) cs590 0)) 19 (upd ((B589 19)) cs590 (nI hd595))) 18) ((updA (updA (updA (updA B589 16 (upd ((B589 16)) cs590 6)) 17 (aim ((aim ((upd ((B589 17)) cs590 (nI cs))) ex359 (cs590 + 1))) xb500 (cs590 + 1))) 18 (upd ((B589 18)) cs590 0)) 19 (upd ((B589 19)) cs590 (nI hd595))) 19) [] := hst715
      have hz732 : LpS K588 ((updA (updA (updA (updA B589 16 (upd ((B589 16)) cs590 6)) 17 (aim ((aim ((upd ((B589 17)) cs590 (nI cs))) ex359 (cs590 + 1))) xb500 (cs590 + 1))) 18 (upd ((B589 18)) cs590 0)) 19 (upd ((B589 19)) cs590 (nI hd595))) 16) ((updA (updA (updA (updA B589 16 (upd ((B589 16)) cs590 6)) 17 (aim ((aim ((upd ((B589 17)) cs590 (nI cs))) ex359 (cs590 + 1))) xb500 (cs590 + 1))) 18 (upd ((B589 18)) cs590 0)) 19 (upd ((B589 19)) cs590 (nI hd595))) 17) Ag714 (pdm (pdm (pdm pd499 xc501) ex359) xb500) lp9 lw (cs590 + 1) hd sl hdL slL xb xc := hlp717
      have hz733 : PdS pd (pdm (pdm (pdm pd499 xc501) ex359) xb500) xb xb xc xc [] cs (cs590 + 1) := hpdL
      have hz734 : RgQx (updA (updA (updA (updA B589 16 (upd ((B589 16)) cs590 6)) 17 (aim ((aim ((upd ((B589 17)) cs590 (nI cs))) ex359 (cs590 + 1))) xb500 (cs590 + 1))) 18 (upd ((B589 18)) cs590 0)) 19 (upd ((B589 19)) cs590 (nI hd595))) Q498 gr496 nd := hrq649
      have hz735 : LpR K588 lp9 rL := hlr650
      have hO : OKP G h0 a (upd (upd (upd (upd (upd (upd (upd (upd (upd (upd F 2 (nI sz)) 5 (nI (cs590 + 1))) 6 (nI rg495)) 7 (nI hd)) 8 (nI dp596)) 12 (nI vr)) 13 (wf355 &&& bsv)) 14 wt592) 15 wf593) 16 ls497) (updR (updR (updR R 2 (.ref pq)) 3 (.ref mq)) 4 (va_rf lp9)) Z (updA (updA (updA (updA B589 16 (upd ((B589 16)) cs590 6)) 17 (aim ((aim ((upd ((B589 17)) cs590 (nI cs))) ex359 (cs590 + 1))) xb500 (cs590 + 1))) 18 (upd ((B589 18)) cs590 0)) 19 (upd ((B589 19)) cs590 (nI hd595))) J K588 w := hO.to rfl
      refine W.widen (k := ((rE (g 2 q) - rS (g 2 q)) + 1)) (n := (6 * (rE (g 2 q) - rS (g 2 q)) + 6)) (by omega) (by omega) ?_
      have hzz1 : H.size ≤ s.heap.size + ((rE (g 2 q) - rS (g 2 q))) := (by have z : (1 + (rE (g 2 q4) - rS (g 2 q4))) ≤ (rE (g 2 q) - rS (g 2 q)) := (by omega); omega)
      have hzz2 : hSl H ≤ hSl s.heap + ((6 * (rE (g 2 q) - rS (g 2 q)))) := (by have z : (6 + (6 * (rE (g 2 q4) - rS (g 2 q4)))) ≤ (6 * (rE (g 2 q) - rS (g 2 q))) := (by omega); omega)
      exact W.vret hx hb hr (fun t99 ht99 hW99 => ⟨⟨_, (w, (K588, (updA (updA (updA (updA B589 16 (upd ((B589 16)) cs590 6)) 17 (aim ((aim ((upd ((B589 17)) cs590 (nI cs))) ex359 (cs590 + 1))) xb500 (cs590 + 1))) 18 (upd ((B589 18)) cs590 0)) 19 (upd ((B589 19)) cs590 (nI hd595))), (cs590 + 1), (wf355 &&& bsv), wt592, wf593, dp596, Ag714, rg495, gr496, ls497, Q498, (pdm (pdm (pdm pd499 xc501) ex359) xb500), xb, xc)), rfl, ⟨rfl, hz719, hz720, hz721, hz722, hz723, hz724, hz725, hz726, hz727, hz728, hz729, hz730, hz731, hz732, hz733, hz734, hz735, hO⟩, by rw [ht99]; exact hP, hD, by rw [ht99]; exact hzz1, by rw [ht99]; exact hzz2⟩, hS.F ht99⟩) hS.2.2 dX0_loopStatement_212
  · skip
    rw [hos0] at hsd3
    have hz0 := hnd.2.1 0 z1 (by decide) hos0
    have hz0T := hz0.1
    have hz0v : 1 ≤ g 0 z1 ∧ g 0 z1 + 1 ≤ n := ⟨hz0.2.1, by have z := hz0.2.2.1; omega⟩
    have hsdA := hsda z1 hos0
    refine lv_aload_n hx hb dX0_loopStatement_0 rfl (lv_at hl 0 rfl) ?_
    rcases hos2 : K.2.2.1 2 q with _ | z3
    · skip
      rw [hos2] at hsd3
      have hsd4 : tlE g z1 + tO g ob + 0 + tlE g q4 + 3 ≤ tlE g q := hsd3
      refine c_get (v := .int (nI vr)) (C := RX0) (Tc := TX0) (N := 13) (ci := 0) hx hb hq pin_wsX00 hown hE hP hO 24 (sg_24 G h0 a _ _ _ _ _) rfl 5 (by decide) (hq _ pw_42) (fun _ h9 => h9) rfl dX0_loopStatement_1 ?_
      refine lv_istore_n (lv' := [(2, .int (nI vr)), (0, .ref (a 4)), (1, .ref q)]) hx hb dX0_loopStatement_4 rfl hl (by decide) rfl (fun ls hl => ?_)
      refine lv_aload_n hx hb dX0_loopStatement_5 rfl (lv_at hl 1 rfl) ?_
      refine c_get (v := .ref (a 2)) (C := RX0) (Tc := TX0) (N := 13) (ci := 0) hx hb hq pin_wsX00 hown hE hP hO 24 (sg_24 G h0 a _ _ _ _ _) rfl 1 (by decide) (hq _ pw_5) (fun _ h9 => h9) rfl dX0_loopStatement_6 ?_
      refine c_get (v := .int (nI hd)) (C := RX1) (Tc := TX1) (N := 13) (ci := 1) hx hb hq pin_wsX10 hown hE hP hO 13 (sg_13 G h0 a _ _ _ _ _) rfl 11 (by decide) (hq _ pw_54) (fun _ h9 => h9) rfl dX0_loopStatement_9 ?_
      refine lv_istore_n (lv' := [(3, .int (nI hd)), (2, .int (nI vr)), (0, .ref (a 4)), (1, .ref q)]) hx hb dX0_loopStatement_12 rfl hl (by decide) rfl (fun ls hl => ?_)
      refine lv_aload_n hx hb dX0_loopStatement_13 rfl (lv_at hl 3 rfl) ?_
      refine p_get (v := .ref z1) (C := RX7) (Tc := TX7) (N := 11) (ci := 13) hx hb hq pin_wsX70 hown hE hP hO (by rw [hqT]; decide) (rep_1 hqT) rfl 6 (by decide) (hq _ pw_180) (fun _ h9 => h9) (congrArg (fun z => some (va_rf z)) hos0) dX0_loopStatement_14 ?_
      refine lv_ifnull hx hb dX0_loopStatement_17 ?_
      refine lv_aload_n hx hb dX0_loopStatement_20 rfl (lv_at hl 2 rfl) ?_
      refine lv_aload_n hx hb dX0_loopStatement_21 rfl (lv_at hl 3 rfl) ?_
      refine p_get (v := .ref z1) (C := RX7) (Tc := TX7) (N := 11) (ci := 13) hx hb hq pin_wsX70 hown hE hP hO (by rw [hqT]; decide) (rep_1 hqT) rfl 6 (by decide) (hq _ pw_180) (fun _ h9 => h9) (congrArg (fun z => some (va_rf z)) hos0) dX0_loopStatement_22 ?_
      refine lv_iconst (v := 0) hx hb dX0_loopStatement_25 (by decide) ?_
      have htl736 : tlE g z1 = rE (g 2 z1) - rS (g 2 z1) := rfl
      have hO : OKP G h0 a (upd (upd (upd (upd (upd (upd (upd (upd (upd (upd (upd (upd (upd (upd (upd (upd F 2 (nI sz)) 5 (nI cs)) 6 (nI rg)) 7 (nI hd)) 8 (nI dp)) 12 (nI vr)) 13 as9) 16 ls9) 2 (nI sz)) 5 (nI cs)) 6 (nI rg)) 7 (nI hd)) 8 (nI dp)) 12 (nI vr)) 13 as9) 16 ls9) (updR (updR (updR (updR (updR (updR R 2 (.ref pq)) 3 (.ref mq)) 4 (va_rf lp9)) 2 (.ref pq)) 3 (.ref mq)) 4 (va_rf lp9)) Z B J K w := hO.to rfl
      obtain ⟨_, qr740, hqr741⟩ := hO.2.1 24 _ (sg_24 G h0 a _ _ _ _ _)
      refine pn_V0 (G := G) (As := [.ref z1, .int 0]) (rest := []) hx hb hml hown hq hE hX pX0_al hP hD hS hA hl.1 (Y_stS l G h0 a (upd (upd (upd (upd (upd (upd (upd (upd F 2 (nI sz)) 5 (nI cs)) 6 (nI rg)) 7 (nI hd)) 8 (nI dp)) 12 (nI vr)) 13 as9) 16 ls9) (updR (updR (updR R 2 (.ref pq)) 3 (.ref mq)) 4 (va_rf lp9)) Z B J K w pq dr ml nd nm cp it s9 z1 mq cs vr sz (n - 1) hd dp rg ls9 lp9 g rk pb Ag Q9 pd sl m9 lw c0 rt gr as9 (by omega) (BdE.wp BdE.rfl hwp) (BdE.pt BdE.rfl hwp hps) (BdE.rko BdE.rfl hrk) (by omega) (by omega) hng hmq hz0T ⟨hz0v.1, (by have z9 := hz0v; omega)⟩ hrt hrv (by omega) (by omega) (by omega) (LpO.be BdE.rfl hlo) (EkA.be BdE.rfl (BtR.rfl 7 (by decide)) (BtR.rfl 11 (by decide)) hek) (OwC.be BdE.rfl hmq hdr0 hcO) (NaB.be BdE.rfl BeF.rfl hwp hps.2.1 hdr0 (BtR.rfl 11 (by decide)) hna) hen hao hst0.1 (by omega) (SkA.be BdE.rfl (BtR.rfl 11 (by decide)) hsk) (hsdA.2.elim Or.inl (fun e9 => Or.inr (Or.inl e9))) hO hl0) (gV pw_300 pw_301 pw_302 pw_63 pw_323) hV_X0_statement qr740 0 hqr741 rfl rfl rfl (Nat.le_of_ble_eq_true rfl) dX0_loopStatement_26 ⟨(by show 0 + 1 ≤ ((rE (g 2 q) - rS (g 2 q)) + 1); omega), (by show 0 + 6 ≤ (6 * (rE (g 2 q) - rS (g 2 q)) + 6); omega)⟩ ⟨(by show (5 * (n - 1) + 50) + 1 ≤ (5 * n + 46); omega), (by show 8 + (3 + 11) + (200 * (n - 1) + 1200) ≤ (200 * n + 1120); omega)⟩ (fun v739 u737 H locs hw738 hP hD hS => ?_) (fun ux ce9 q9 H9 locs9 hux hP9 hD9 hS9 hce hcv hcl => pb_out ux (ThQ.up (Thx.same (Thx.same (Thx.same (Thx.same (Thx.same (Thx.same (Thx.same (Thx.same Thx.rfl rfl) rfl) rfl) rfl) rfl) rfl) rfl) rfl) (show RhX (updR (updR (updR R 2 (.ref pq)) 3 (.ref mq)) 4 (va_rf lp9)) (updR (updR (updR (updR (updR (updR R 2 (.ref pq)) 3 (.ref mq)) 4 (va_rf lp9)) 2 (.ref pq)) 3 (.ref mq)) 4 (va_rf lp9)) from fun k9 hk9 => by unfold updR; simp only [show ¬ k9 = 1 by omega, show ¬ k9 = 2 by omega, show ¬ k9 = 3 by omega, show ¬ k9 = 4 by omega, if_false]) hux) hnt hlocks hce hcv hcl hP9 hD9 hS9 (by show 0 + 1 ≤ ((rE (g 2 q) - rS (g 2 q)) + 1); omega) (by show 0 + 6 ≤ (6 * (rE (g 2 q) - rS (g 2 q)) + 6); omega))
      obtain ⟨w, K742, B743, cs744, as745, wt746, wf747, vr748, hd749, dp750, Ag751, sl752⟩ := u737
      obtain ⟨hw738, h753, h754, h755, h756, h757, h758, h759, h760, h761, h762, h763, h764, h765, h766, hO⟩ := hw738
      have h753 : SmW B B743 cs := h753
      have h754 : BdE K K742 := h754
      have h755 : BeF K K742 := h755
      have h756 : BeL K K742 none := h756
      have h757 : Bth B B743 := h757
      have h758 : BsR B B743 := h758
      have h759 : cs ≤ cs744 ∧ cs744 + 1 ≤ cs + 2 * tlE g z1 := h759
      have h760 : dp ≤ dp750 ∧ dp750 ≤ 71 := h760
      have h761 : vr ≤ vr748 ∧ vr748 ≤ 30 ∧ hd749 + vr = hd + vr748 := h761
      have h762 : AsO as745 := h762
      have h763 : VrS B B743 vr := h763
      have h764 : cs < cs744 := h764
      have h765 : EnV (B743 26) (B743 27) nd vr748 hd749 c0 sl752 := h765
      have h766 : StW pb.1 pb.2.1 pb.2.2.1 pb.2.2.2 Ag Ag751 Q9 Q9 pd pd m9 dp750 lw cs cs744 as9 as745 hd hd749 sl sl752 gr gr (B743 16) (B743 17) (B743 18) (B743 19) [] := h766
      obtain rfl : v739 = none := hw738
      have hf767 : K742.1 pq = 7 := (BdE.T h754 hp1 (by decide))
      have hf768 : K742.2.2.1 18 pq = some (a 1) := (BdE.C h754 (by rw [hp1]; decide) 18).trans hp2
      have hf769 : K742.2.2.1 14 pq = some dr := (BdE.C h754 (by rw [hp1]; decide) 14).trans hp3
      have hf770 : K742.1 dr = 8 := (BdE.T h754 hp4 (by decide))
      have hf771 : K742.2.2.1 15 pq = some ml := (BdE.C h754 (by rw [hp1]; decide) 15).trans hp5
      have hf772 : K742.1 ml = 5 := (BdE.T h754 hp6 (by decide))
      have hf773 : K742.2.1 24 pq = (nI nd) := (BdE.I h754 (by rw [hp1]; decide) (by decide) (by decide)).trans hp8
      have hf774 : K742.1 q = 1 := (BdE.T h754 hqT (by decide))
      have hf775 : K742.1 mq = 3 := (BdE.T h754 hmq (by decide))
      have hf776 : K742.2.1 10 mq = (nI rt) := (BdE.I h754 (by rw [hmq]; decide) (by decide) (by decide)).trans hrt
      have hf777 : K742.2.2.1 3 q = some q4 := (BdE.C h754 (by rw [hqT]; decide) 3).trans hc3
      have hf778 : K742.1 q4 = 1 := (BdE.T h754 ht3 (by decide))
      have hf779 : K742.2.2.1 1 q = ob := (BdE.C h754 (by rw [hqT]; decide) 1).trans hob
      have hf780 : K742.2.2.1 0 q = some z1 := (BdE.C h754 (by rw [hqT]; decide) 0).trans hos0
      have hf781 : K742.1 z1 = 1 := (BdE.T h754 hz0T (by decide))
      have hf782 : K742.2.2.1 2 q = none := (BdE.C h754 (by rw [hqT]; decide) 2).trans hos2
      have hO : OKP G h0 a (upd (upd (upd (upd (upd (upd (upd (upd (upd (upd F 2 (nI sz)) 5 (nI cs744)) 6 (nI rg)) 7 (nI hd749)) 8 (nI dp750)) 12 (nI vr748)) 13 as745) 14 wt746) 15 wf747) 16 ls9) (updR (updR (updR R 2 (.ref pq)) 3 (.ref mq)) 4 (va_rf lp9)) Z B743 J K742 w := hO.to rfl
      refine W.widen (k := 0) (n := 0) (by show 0 + 0 ≤ 0; omega) (by show 0 + 0 ≤ 0; omega) ?_
      refine W.eq (g2 := F0 m 29 ls []) rfl ?_
      have hbe783 := BdE.trans BdE.rfl h754
      have hbb784 : Bth B B743 := Bth.trans (show Thx (upd (upd (upd (upd (upd (upd (upd (upd F 2 (nI sz)) 5 (nI cs)) 6 (nI rg)) 7 (nI hd)) 8 (nI dp)) 12 (nI vr)) 13 as9) 16 ls9) (upd (upd (upd (upd (upd (upd (upd (upd F 2 (nI sz)) 5 (nI cs)) 6 (nI rg)) 7 (nI hd)) 8 (nI dp)) 12 (nI vr)) 13 as9) 16 ls9) B B from Thx.rfl).2 h757
      have hng785 : Nng (B743 18) := h757.2 hng
      have hsw786 : ∀ x9 : Nat, x9 < cs → (B743 16) x9 = B 16 x9 := fun x9 hx9 => ((h753 x9 (by omega)).1).trans ((fun _ _ => rfl) x9 hx9)
      have hsw787 : ∀ x9 : Nat, x9 < cs → (B743 17) x9 = B 17 x9 := fun x9 hx9 => ((h753 x9 (by omega)).2.1).trans ((fun _ _ => rfl) x9 hx9)
      have hsw788 : ∀ x9 : Nat, x9 < cs → (B743 18) x9 = B 18 x9 := fun x9 hx9 => ((h753 x9 (by omega)).2.2.1).trans ((fun _ _ => rfl) x9 hx9)
      have hsw789 : ∀ x9 : Nat, x9 < cs → (B743 19) x9 = B 19 x9 := fun x9 hx9 => ((h753 x9 (by omega)).2.2.2).trans ((fun _ _ => rfl) x9 hx9)
      have hbf790 := BeF.trans BeF.rfl h755 BdE.rfl
      have hbl792 : BeL K K742 lp9 := BeL.trans BeL.rfl (BeL.any h756) BdE.rfl
      have hbr791 : BtR B B743 := BtR.trans BtR.rfl (BsR.bt h758)
      have hvs793 : VrS B B743 vr := VrS.trans VrS.rfl h763 (by omega)
      have hst794 : StW pb.1 pb.2.1 pb.2.2.1 pb.2.2.2 Ag Ag751 Q9 Q9 pd pd m9 dp750 lw cs cs744 as9 as745 hd hd749 sl sl752 gr gr (B743 16) (B743 17) (B743 18) (B743 19) ([] : List Nat) := StW.seq hst0 (by omega) (fun x9 hx9 => ⟨(h753 x9 hx9).1, (h753 x9 hx9).2.1⟩) h766
      have hsn795 := hst794.1.2.2.2.1
      have hrq796 : RgQx B743 Q9 gr nd := RgQx.ber hrq (BsR.rg h758 20 (by decide) (by decide)) (BsR.rg h758 21 (by decide) (by decide)) (BsR.rg h758 22 (by decide) (by decide)) (BsR.rg h758 23 (by decide) (by decide)) (BsR.rg h758 24 (by decide) (by decide))
      have hlp797 : LpS K742 (B743 16) (B743 17) Ag751 pd lp9 lw cs744 hd749 sl752 hdL slL xb xc := LpS.same hlp (fun lq9 e9 f9 _ _ => h756 lq9 (LpO.be BdE.rfl hlo lq9 e9) (fun z => by cases z) f9) (fun z9 hz9 => ⟨(h753 z9 hz9).1, (h753 z9 hz9).2.1, h766.2.2.1 z9 (by omega)⟩) (fun _ h9 => h9) (fun z9 h9 => Nat.lt_of_lt_of_le (hlp.1 z9 h9) (by omega)) (by omega) h766.2.2.2.2.2.2.1
      have hpd798 : PdS pd pd xb xb xc xc ([] : List Nat) cs cs744 := PdS.wk (PdS.rfl (cs1 := cs)) (by omega)
      have hlr799 : LpR K742 lp9 rL := LpR.same hlr (fun lq9 e9 f9 _ _ => h756 lq9 (LpO.be BdE.rfl hlo lq9 e9) (fun z => by cases z) f9)
      have hwfF : WfA (1, hd749, sl752, ([] : List Nat)) := hst794.1.2.2.1
      have hsnF := hst794.1.2.2.2.1
      have hstF : StW pb.1 pb.2.1 pb.2.2.1 pb.2.2.2 Ag751 Ag751 Q9 Q9 pd pd m9 dp750 lw cs744 cs744 as745 as745 hd749 hd749 sl752 sl752 gr gr (B743 16) (B743 17) (B743 18) (B743 19) ([] : List Nat) := StW.nil hst794.1
      have hbkF : BeL K742 K742 none := BeL.rfl
      have hbjF : BdE K742 K742 := BdE.rfl
      refine lv_aload_n hx hb dX0_loopStatement_29 rfl (lv_at hl 2 rfl) ?_
      refine c_get (v := .ref (a 2)) (C := RX0) (Tc := TX0) (N := 13) (ci := 0) hx hb hq pin_wsX00 hown hE hP hO 24 (sg_24 G h0 a _ _ _ _ _) rfl 1 (by decide) (hq _ pw_5) (fun _ h9 => h9) rfl dX0_loopStatement_30 ?_
      refine c_get (v := .int (nI cs744)) (C := RX1) (Tc := TX1) (N := 13) (ci := 1) hx hb hq pin_wsX10 hown hE hP hO 13 (sg_13 G h0 a _ _ _ _ _) rfl 4 (by decide) (hq _ pw_75) (fun _ h9 => h9) rfl dX0_loopStatement_33 ?_
      refine lv_istore (lv' := [(4, .int (nI cs744)), (3, .int (nI hd)), (2, .int (nI vr)), (0, .ref (a 4)), (1, .ref q)]) hx hb dX0_loopStatement_36 hl (by decide) rfl (fun ls hl => ?_)
      refine lv_aload_n hx hb dX0_loopStatement_38 rfl (lv_at hl 3 rfl) ?_
      refine c_get (v := .ref (a 2)) (C := RX0) (Tc := TX0) (N := 13) (ci := 0) hx hb hq pin_wsX00 hown hE hP hO 24 (sg_24 G h0 a _ _ _ _ _) rfl 1 (by decide) (hq _ pw_5) (fun _ h9 => h9) rfl dX0_loopStatement_39 ?_
      refine lv_iconst (v := 0) hx hb dX0_loopStatement_42 (by decide) ?_
      refine lv_iconst (v := 0) hx hb dX0_loopStatement_43 (by decide) ?_
      refine lv_iconst (v := 0) hx hb dX0_loopStatement_44 (by decide) ?_
      have hO : OKW G h0 a (upd (upd (upd (upd (upd (upd (upd (upd (upd (upd (upd (upd F 2 (nI sz)) 5 (nI cs744)) 6 (nI rg)) 7 (nI hd749)) 8 (nI dp750)) 12 (nI vr748)) 13 as745) 14 wt746) 15 wf747) 16 ls9) 5 (nI cs744)) 7 (nI hd749)) (updR (updR (updR R 2 (.ref pq)) 3 (.ref mq)) 4 (va_rf lp9)) Z B743 J K742.1 (fun q99 x99 => x99 = rep G a K742 q99) w := hO.to rfl
      obtain ⟨_, qr803, hqr804⟩ := hO.2.1 13 _ (sg_13 G h0 a _ _ _ _ _)
      refine pc_V0 (G := G) (As := [.int 0, .int 0, .int 0]) (rest := []) hx hb hml hown hq hE hX pX0_al hP hD hS hA hl.1 (Y_emit l G h0 a (upd (upd (upd (upd (upd (upd (upd (upd (upd (upd F 2 (nI sz)) 5 (nI cs744)) 6 (nI rg)) 7 (nI hd749)) 8 (nI dp750)) 12 (nI vr748)) 13 as745) 14 wt746) 15 wf747) 16 ls9) (updR (updR (updR R 2 (.ref pq)) 3 (.ref mq)) 4 (va_rf lp9)) Z B743 J K742.1 (fun q99 x99 => x99 = rep G a K742 q99) w 0 0 0 cs744 hd749 (by omega) hO) (gV pw_129 pw_130 pw_131 pw_70 pw_115) hV_X1_emit qr803 1 hqr804 rfl rfl rfl (Nat.le_of_ble_eq_true rfl) dX0_loopStatement_45 ⟨(by show 0 + 0 ≤ ((rE (g 2 q) - rS (g 2 q)) + 1); omega), (by show 0 + 0 ≤ (6 * (rE (g 2 q) - rS (g 2 q)) + 6); omega)⟩ ⟨(by show 2 + 1 ≤ (5 * n + 46); omega), (by show 8 + (4 + 11) + 60 ≤ (200 * n + 1120); omega)⟩ (fun v802 u800 H locs hw801 hP hD hS => ?_)
      obtain ⟨w, _⟩ := u800
      obtain ⟨hw801, hO⟩ := hw801
      obtain rfl : v802 = none := hw801
      have hO : OKP G h0 a (upd (upd (upd (upd (upd (upd (upd (upd (upd (upd F 2 (nI sz)) 5 (nI (cs744 + 1))) 6 (nI rg)) 7 (nI hd749)) 8 (nI dp750)) 12 (nI vr748)) 13 as745) 14 wt746) 15 wf747) 16 ls9) (updR (updR (updR R 2 (.ref pq)) 3 (.ref mq)) 4 (va_rf lp9)) Z (updA (updA (updA (updA B743 16 (upd ((B743 16)) cs744 0)) 17 (upd ((B743 17)) cs744 0)) 18 (upd ((B743 18)) cs744 0)) 19 (upd ((B743 19)) cs744 (nI hd749))) J K742 w := hO.to rfl
      refine W.widen (k := 0) (n := 0) (Nat.le_of_ble_eq_true rfl) (Nat.le_of_ble_eq_true rfl) ?_
      refine W.eq (g2 := F0 m 48 ls []) rfl ?_
      have hsw805 : ∀ x9 : Nat, x9 < cs → (upd ((B743 16)) cs744 0) x9 = B 16 x9 := fun x9 hx9 => (if_neg (by omega)).trans (hsw786 x9 hx9)
      have hsw806 : ∀ x9 : Nat, x9 < cs → (upd ((B743 17)) cs744 0) x9 = B 17 x9 := fun x9 hx9 => (if_neg (by omega)).trans (hsw787 x9 hx9)
      have hsw807 : ∀ x9 : Nat, x9 < cs → (upd ((B743 18)) cs744 0) x9 = B 18 x9 := fun x9 hx9 => (if_neg (by omega)).trans (hsw788 x9 hx9)
      have hsw808 : ∀ x9 : Nat, x9 < cs → (upd ((B743 19)) cs744 (nI hd749)) x9 = B 19 x9 := fun x9 hx9 => (if_neg (by omega)).trans (hsw789 x9 hx9)
      have hsx809 : ∀ x9 : Nat, x9 < cs744 → (upd ((B743 16)) cs744 0) x9 = (B743 16) x9 := fun x9 hx9 => (if_neg (by omega)).trans ((fun _ _ => rfl) x9 hx9)
      have hsx810 : ∀ x9 : Nat, x9 < cs744 → (upd ((B743 17)) cs744 0) x9 = (B743 17) x9 := fun x9 hx9 => (if_neg (by omega)).trans ((fun _ _ => rfl) x9 hx9)
      have hsx811 : ∀ x9 : Nat, x9 < cs744 → (upd ((B743 18)) cs744 0) x9 = (B743 18) x9 := fun x9 hx9 => (if_neg (by omega)).trans ((fun _ _ => rfl) x9 hx9)
      have hsx812 : ∀ x9 : Nat, x9 < cs744 → (upd ((B743 19)) cs744 (nI hd749)) x9 = (B743 19) x9 := fun x9 hx9 => (if_neg (by omega)).trans ((fun _ _ => rfl) x9 hx9)
      obtain ⟨Ag813, hst814, hag815⟩ : ∃ A5 : Nat → AS, StW pb.1 pb.2.1 pb.2.2.1 pb.2.2.2 Ag751 A5 Q9 Q9 pd pd m9 dp750 lw cs744 (cs744 + 1) as745 as745 hd749 hd749 sl752 sl752 gr gr (upd ((B743 16)) cs744 0) (upd ((B743 17)) cs744 0) (upd ((B743 18)) cs744 0) (upd ((B743 19)) cs744 (nI hd749)) ([] : List Nat) ∧ ∀ x9 : Nat, x9 ≤ cs744 → A5 x9 = Ag751 x9 := ⟨(upS Ag751 (cs744 + 1) (rcA as745, hd749, sl752, ([] : List Nat))), StW.fuel hstF, fun x9 hx9 => upS_ne (by omega)⟩
      have hng816 : Nng (upd ((B743 18)) cs744 0) := Nng.set hng785 (k := 0) (by omega)
      have hj817 : (upd ((B743 16)) cs744 0) cs744 = (nI 0) := if_pos rfl
      have hj818 : Ag813 cs744 = (rcA as745, hd749, sl752, ([] : List Nat)) := (hag815 cs744 (Nat.le_refl _)).trans hstF.1.1.2
      refine lv_aload_n hx hb dX0_loopStatement_48 rfl (lv_at hl 3 rfl) ?_
      refine lv_aload_n hx hb dX0_loopStatement_49 rfl (lv_at hl 4 rfl) ?_
      refine p_get (v := va_rf ob) (C := RX7) (Tc := TX7) (N := 11) (ci := 13) hx hb hq pin_wsX70 hown hE hP hO (by rw [hf774]; decide) (rep_1 hf774) rfl 7 (by decide) (hq _ pw_169) (fun _ h9 => h9) (congrArg (fun z => some (va_rf z)) hf779) dX0_loopStatement_50 ?_
      have hO : OKP G h0 a (upd (upd (upd (upd (upd (upd (upd (upd (upd (upd (upd (upd (upd (upd (upd (upd (upd (upd (upd (upd (upd (upd (upd F 2 (nI sz)) 5 (nI cs)) 6 (nI rg)) 7 (nI hd)) 8 (nI dp)) 12 (nI vr)) 13 as9) 16 ls9) 5 (nI (cs744 + 1))) 7 (nI hd749)) 8 (nI dp750)) 12 (nI vr748)) 13 as745) 14 wt746) 15 wf747) 2 (nI sz)) 5 (nI (cs744 + 1))) 6 (nI rg)) 7 (nI hd749)) 8 (nI dp750)) 12 (nI vr748)) 13 as745) 16 ls9) (updR (updR (updR (updR (updR (updR R 2 (.ref pq)) 3 (.ref mq)) 4 (va_rf lp9)) 2 (.ref pq)) 3 (.ref mq)) 4 (va_rf lp9)) Z (updA (updA (updA (updA B743 16 (upd ((B743 16)) cs744 0)) 17 (upd ((B743 17)) cs744 0)) 18 (upd ((B743 18)) cs744 0)) 19 (upd ((B743 19)) cs744 (nI hd749))) J K742 w := hO.to rfl
      obtain ⟨_, qr822, hqr823⟩ := hO.2.1 24 _ (sg_24 G h0 a _ _ _ _ _)
      refine pn_V0 (G := G) (As := [va_rf ob]) (rest := []) hx hb hml hown hq hE hX pX0_al hP hD hS hA hl.1 (Y_loopCondO l G h0 a (upd (upd (upd (upd (upd (upd (upd (upd (upd (upd (upd (upd (upd (upd (upd F 2 (nI sz)) 5 (nI cs)) 6 (nI rg)) 7 (nI hd)) 8 (nI dp)) 12 (nI vr)) 13 as9) 16 ls9) 5 (nI (cs744 + 1))) 7 (nI hd749)) 8 (nI dp750)) 12 (nI vr748)) 13 as745) 14 wt746) 15 wf747) (updR (updR (updR R 2 (.ref pq)) 3 (.ref mq)) 4 (va_rf lp9)) Z (updA (updA (updA (updA B743 16 (upd ((B743 16)) cs744 0)) 17 (upd ((B743 17)) cs744 0)) 18 (upd ((B743 18)) cs744 0)) 19 (upd ((B743 19)) cs744 (nI hd749))) J K742 w pq dr ml nd nm cp it s9 q mq (cs744 + 1) vr748 sz n ob (tO g ob) hd749 dp750 rg ls9 lp9 g rk pb Ag813 Q9 pd sl752 m9 lw c0 rt gr as745 (by omega) (BdE.wp hbe783 hwp) (BdE.pt hbe783 hwp hps) (BdE.rko hbe783 hrk) (by omega) (by omega) hng816 hf775 hf774 hqL hf776 hrv (by omega) (by omega) (LpO.be hbe783 hlo) (EkA.be hbe783 ((BtR.up (BtR.up (BtR.up (BtR.up hbr791 (by omega)) (by omega)) (by omega)) (by omega)) 7 (by decide)) ((BtR.up (BtR.up (BtR.up (BtR.up hbr791 (by omega)) (by omega)) (by omega)) (by omega)) 11 (by decide)) hek) (OwC.be hbe783 hmq hdr0 hcO) (NaB.be hbe783 hbf790 hwp hps.2.1 hdr0 ((BtR.up (BtR.up (BtR.up (BtR.up hbr791 (by omega)) (by omega)) (by omega)) (by omega)) 11 (by decide)) hna) h765 h762 hst814.1 (KvO.of ((BdE.wp hbe783 hwp).1 q hf774 hqL.1) (by decide) hf779 hqL.2) (fun x9 hx9 => ⟨hsdb x9 hx9, by rw [hx9]; exact Nat.le_refl _⟩) (by omega) hO hl0) (gV pw_318 pw_319 pw_320 pw_63 pw_271) hV_X0_loopCondition qr822 0 hqr823 rfl rfl rfl (Nat.le_of_ble_eq_true rfl) dX0_loopStatement_53 ⟨(by show 0 + 1 ≤ ((rE (g 2 q) - rS (g 2 q)) + 1); omega), (by show 0 + 6 ≤ (6 * (rE (g 2 q) - rS (g 2 q)) + 6); omega)⟩ ⟨(by show (5 * n + 35) + 1 ≤ (5 * n + 46); omega), (by show 8 + (2 + 11) + (200 * n + 640) ≤ (200 * n + 1120); omega)⟩ (fun v821 u819 H locs hw820 hP hD hS => ?_) (fun ux ce9 q9 H9 locs9 hux hP9 hD9 hS9 hce hcv hcl => pb_out ux (ThQ.up (Thx.same (Thx.same (Thx.same (Thx.same (Thx.same (Thx.same (Thx.same (Thx.same (Thx.b (Thx.b8 (Thx.b (Thx.b (Thx.f (Thx.f (Thx.f (Thx.f (Thx.f (Thx.f (Thx.f (Bth.thx hbb784) (by omega)) (by omega)) (by omega)) (by omega)) (by omega)) (by omega)) (by omega)) (by omega) (by decide)) (by omega) (by decide)) hng816) (by omega) (by decide)) rfl) rfl) rfl) rfl) rfl) rfl) rfl) rfl) (show RhX (updR (updR (updR R 2 (.ref pq)) 3 (.ref mq)) 4 (va_rf lp9)) (updR (updR (updR (updR (updR (updR R 2 (.ref pq)) 3 (.ref mq)) 4 (va_rf lp9)) 2 (.ref pq)) 3 (.ref mq)) 4 (va_rf lp9)) from fun k9 hk9 => by unfold updR; simp only [show ¬ k9 = 1 by omega, show ¬ k9 = 2 by omega, show ¬ k9 = 3 by omega, show ¬ k9 = 4 by omega, if_false]) hux) hnt hlocks hce hcv hcl hP9 hD9 hS9 (by show 0 + 1 ≤ ((rE (g 2 q) - rS (g 2 q)) + 1); omega) (by show 0 + 6 ≤ (6 * (rE (g 2 q) - rS (g 2 q)) + 6); omega))
      obtain ⟨w, K824, B825, cs826, as827, wt828, wf829, x830, Ag831, pd832, ex833⟩ := u819
      obtain ⟨hw820, h834, h835, h836, h837, h838, h839, h840, h841, h842, h843, h844, h845, hO⟩ := hw820
      have h834 : SmW (updA (updA (updA (updA B743 16 (upd ((B743 16)) cs744 0)) 17 (upd ((B743 17)) cs744 0)) 18 (upd ((B743 18)) cs744 0)) 19 (upd ((B743 19)) cs744 (nI hd749))) B825 (cs744 + 1) := h834
      have h835 : BdE K742 K824 := h835
      have h836 : BeF K742 K824 := h836
      have h837 : BeL K742 K824 none := h837
      have h838 : Bth (updA (updA (updA (updA B743 16 (upd ((B743 16)) cs744 0)) 17 (upd ((B743 17)) cs744 0)) 18 (upd ((B743 18)) cs744 0)) 19 (upd ((B743 19)) cs744 (nI hd749))) B825 := h838
      have h839 : BeR (updA (updA (updA (updA B743 16 (upd ((B743 16)) cs744 0)) 17 (upd ((B743 17)) cs744 0)) 18 (upd ((B743 18)) cs744 0)) 19 (upd ((B743 19)) cs744 (nI hd749))) B825 := h839
      have h840 : (cs744 + 1) ≤ cs826 ∧ cs826 ≤ (cs744 + 1) + 2 * (tO g ob) + 1 := h840
      have h841 : AsO as827 ∧ AsO wt828 ∧ AsO wf829 := h841
      have h842 : ¬ wf829 = -1 → ¬ as745 = -1 := h842
      have h843 : StW pb.1 pb.2.1 pb.2.2.1 pb.2.2.2 Ag813 Ag831 Q9 Q9 pd pd832 m9 dp750 lw (cs744 + 1) cs826 as745 wt828 hd749 hd749 sl752 sl752 gr gr (B825 16) (B825 17) (B825 18) (B825 19) [] := h843
      have h844 : ExJ (B825 16) (B825 17) Ag831 x830 ex833 lw (cs744 + 1) cs826 hd749 sl752 wt828 wf829 := h844
      have h845 : ∀ z : Nat, pd832 z ↔ pd z ∨ z ∈ ex833 := h845
      obtain rfl : v821 = some (.int x830) := hw820
      have hf846 : K824.1 pq = 7 := (BdE.T h835 hf767 (by decide))
      have hf847 : K824.2.2.1 18 pq = some (a 1) := (BdE.C h835 (by rw [hf767]; decide) 18).trans hf768
      have hf848 : K824.2.2.1 14 pq = some dr := (BdE.C h835 (by rw [hf767]; decide) 14).trans hf769
      have hf849 : K824.1 dr = 8 := (BdE.T h835 hf770 (by decide))
      have hf850 : K824.2.2.1 15 pq = some ml := (BdE.C h835 (by rw [hf767]; decide) 15).trans hf771
      have hf851 : K824.1 ml = 5 := (BdE.T h835 hf772 (by decide))
      have hf852 : K824.2.1 24 pq = (nI nd) := (BdE.I h835 (by rw [hf767]; decide) (by decide) (by decide)).trans hf773
      have hf853 : K824.1 q = 1 := (BdE.T h835 hf774 (by decide))
      have hf854 : K824.1 mq = 3 := (BdE.T h835 hf775 (by decide))
      have hf855 : K824.2.1 10 mq = (nI rt) := (BdE.I h835 (by rw [hf775]; decide) (by decide) (by decide)).trans hf776
      have hf856 : K824.2.2.1 3 q = some q4 := (BdE.C h835 (by rw [hf774]; decide) 3).trans hf777
      have hf857 : K824.1 q4 = 1 := (BdE.T h835 hf778 (by decide))
      have hf858 : K824.2.2.1 1 q = ob := (BdE.C h835 (by rw [hf774]; decide) 1).trans hf779
      have hf859 : K824.2.2.1 0 q = some z1 := (BdE.C h835 (by rw [hf774]; decide) 0).trans hf780
      have hf860 : K824.1 z1 = 1 := (BdE.T h835 hf781 (by decide))
      have hf861 : K824.2.2.1 2 q = none := (BdE.C h835 (by rw [hf774]; decide) 2).trans hf782
      have hO : OKP G h0 a (upd (upd (upd (upd (upd (upd (upd (upd (upd (upd F 2 (nI sz)) 5 (nI cs826)) 6 (nI rg)) 7 (nI hd749)) 8 (nI dp750)) 12 (nI vr748)) 13 as827) 14 wt828) 15 wf829) 16 ls9) (updR (updR (updR R 2 (.ref pq)) 3 (.ref mq)) 4 (va_rf lp9)) Z B825 J K824 w := hO.to rfl
      refine W.widen (k := 0) (n := 0) (by show 0 + 0 ≤ 0; omega) (by show 0 + 0 ≤ 0; omega) ?_
      refine W.eq (g2 := F0 m 56 ls [.int x830]) rfl ?_
      have hbe862 := BdE.trans hbe783 h835
      have hbb863 : Bth B B825 := Bth.trans (show Thx (upd (upd (upd (upd (upd (upd (upd (upd F 2 (nI sz)) 5 (nI cs)) 6 (nI rg)) 7 (nI hd)) 8 (nI dp)) 12 (nI vr)) 13 as9) 16 ls9) (upd (upd (upd (upd (upd (upd (upd (upd (upd (upd (upd (upd (upd (upd (upd F 2 (nI sz)) 5 (nI cs)) 6 (nI rg)) 7 (nI hd)) 8 (nI dp)) 12 (nI vr)) 13 as9) 16 ls9) 5 (nI (cs744 + 1))) 7 (nI hd749)) 8 (nI dp750)) 12 (nI vr748)) 13 as745) 14 wt746) 15 wf747) B (updA (updA (updA (updA B743 16 (upd ((B743 16)) cs744 0)) 17 (upd ((B743 17)) cs744 0)) 18 (upd ((B743 18)) cs744 0)) 19 (upd ((B743 19)) cs744 (nI hd749))) from (Thx.b (Thx.b8 (Thx.b (Thx.b (Thx.f (Thx.f (Thx.f (Thx.f (Thx.f (Thx.f (Thx.f (Bth.thx hbb784) (by omega)) (by omega)) (by omega)) (by omega)) (by omega)) (by omega)) (by omega)) (by omega) (by decide)) (by omega) (by decide)) hng816) (by omega) (by decide))).2 h838
      have hng864 : Nng (B825 18) := h838.2 hng816
      have hsw865 : ∀ x9 : Nat, x9 < cs → (B825 16) x9 = B 16 x9 := fun x9 hx9 => ((h834 x9 (by omega)).1).trans (hsw805 x9 hx9)
      have hsw866 : ∀ x9 : Nat, x9 < cs → (B825 17) x9 = B 17 x9 := fun x9 hx9 => ((h834 x9 (by omega)).2.1).trans (hsw806 x9 hx9)
      have hsw867 : ∀ x9 : Nat, x9 < cs → (B825 18) x9 = B 18 x9 := fun x9 hx9 => ((h834 x9 (by omega)).2.2.1).trans (hsw807 x9 hx9)
      have hsw868 : ∀ x9 : Nat, x9 < cs → (B825 19) x9 = B 19 x9 := fun x9 hx9 => ((h834 x9 (by omega)).2.2.2).trans (hsw808 x9 hx9)
      have hsx869 : ∀ x9 : Nat, x9 < cs744 → (B825 16) x9 = (B743 16) x9 := fun x9 hx9 => ((h834 x9 (by omega)).1).trans (hsx809 x9 hx9)
      have hsx870 : ∀ x9 : Nat, x9 < cs744 → (B825 17) x9 = (B743 17) x9 := fun x9 hx9 => ((h834 x9 (by omega)).2.1).trans (hsx810 x9 hx9)
      have hsx871 : ∀ x9 : Nat, x9 < cs744 → (B825 18) x9 = (B743 18) x9 := fun x9 hx9 => ((h834 x9 (by omega)).2.2.1).trans (hsx811 x9 hx9)
      have hsx872 : ∀ x9 : Nat, x9 < cs744 → (B825 19) x9 = (B743 19) x9 := fun x9 hx9 => ((h834 x9 (by omega)).2.2.2).trans (hsx812 x9 hx9)
      have hbf873 := BeF.trans hbf790 h836 hbe783
      have hbl875 : BeL K K824 lp9 := BeL.trans hbl792 (BeL.any h837) hbe783
      have hbr874 : BtR B B825 := BtR.trans (BtR.up (BtR.up (BtR.up (BtR.up hbr791 (by omega)) (by omega)) (by omega)) (by omega)) (BeR.bt h839)
      have hvs876 : VrS B B825 vr := fun i9 hi9 => ⟨(congrFun (h839 26 (by decide)) i9).trans (hvs793 i9 hi9).1, (congrFun (h839 27 (by decide)) i9).trans (hvs793 i9 hi9).2⟩
      have hvF877 : VrS B743 B825 vr748 := fun i9 hi9 => ⟨(congrFun (h839 26 (by decide)) i9).trans (VrS.rfl i9 hi9).1, (congrFun (h839 27 (by decide)) i9).trans (VrS.rfl i9 hi9).2⟩
      have hen878 : EnV (B825 26) (B825 27) nd vr748 hd749 c0 sl752 := EnV.of (h839 26 (by decide)) (h839 27 (by decide)) h765
      have hrq879 : RgQx B825 Q9 gr nd := RgQx.ber hrq796 (h839 20 (by decide)) (h839 21 (by decide)) (h839 22 (by decide)) (h839 23 (by decide)) (h839 24 (by decide))
      have hst880 : StW pb.1 pb.2.1 pb.2.2.1 pb.2.2.2 Ag751 Ag831 Q9 Q9 pd pd832 m9 dp750 lw cs744 cs826 as745 wt828 hd749 hd749 sl752 sl752 gr gr (B825 16) (B825 17) (B825 18) (B825 19) ([] : List Nat) := StW.seq hst814 (Nat.le_refl _) (fun x9 hx9 => ⟨(h834 x9 hx9).1, (h834 x9 hx9).2.1⟩) h843
      have hj881 : (B825 16) cs744 = (nI 0) := ((h834 cs744 (by omega)).1).trans hj817
      have hj882 : Ag831 cs744 = (rcA as745, hd749, sl752, ([] : List Nat)) := (h843.2.2.1 cs744 (by omega)).trans hj818
      have hbk883 : BeL K742 K824 none := BeL.trans hbkF (BeL.any h837) hbjF
      have hbj884 : BdE K742 K824 := BdE.trans hbjF h835
      have hlr885 : LpR K824 lp9 rL := LpR.same hlr799 (fun lq9 e9 f9 _ _ => h837 lq9 (LpO.be hbe783 hlo lq9 e9) (fun z => by cases z) f9)
      refine lv_istore (lv' := [(5, .int x830), (4, .int (nI cs744)), (3, .int (nI hd)), (2, .int (nI vr)), (0, .ref (a 4)), (1, .ref q)]) hx hb dX0_loopStatement_56 hl (by decide) rfl (fun ls hl => ?_)
      refine lv_aload_n hx hb dX0_loopStatement_58 rfl (lv_at hl 4 rfl) ?_
      refine c_get (v := .int wf829) (C := RX0) (Tc := TX0) (N := 13) (ci := 0) hx hb hq pin_wsX00 hown hE hP hO 24 (sg_24 G h0 a _ _ _ _ _) rfl 10 (by decide) (hq _ pw_157) (fun _ h9 => h9) rfl dX0_loopStatement_59 ?_
      refine lv_istore (lv' := [(6, .int wf829), (5, .int x830), (4, .int (nI cs744)), (3, .int (nI hd)), (2, .int (nI vr)), (0, .ref (a 4)), (1, .ref q)]) hx hb dX0_loopStatement_62 hl (by decide) rfl (fun ls hl => ?_)
      refine lv_aload_n hx hb dX0_loopStatement_64 rfl (lv_at hl 5 rfl) ?_
      refine lv_aload_n hx hb dX0_loopStatement_65 rfl (lv_at hl 5 rfl) ?_
      refine c_get (v := .int wt828) (C := RX0) (Tc := TX0) (N := 13) (ci := 0) hx hb hq pin_wsX00 hown hE hP hO 24 (sg_24 G h0 a _ _ _ _ _) rfl 9 (by decide) (hq _ pw_156) (fun _ h9 => h9) rfl dX0_loopStatement_66 ?_
      refine c_put (v := .int wt828) (ty := .int) (C := RX0) (Tc := TX0) (N := 13) (ci := 0) hx hb hq pin_wsX00 tyX0 tyX0_ok nmX0 hown hE hP hD hS hO 24 (sg_24 G h0 a _ _ _ _ _) rfl 8 (by decide) (hq _ pw_55) (fun _ h9 => h9) rfl (by decide +kernel) rfl rfl (Nat.le_of_ble_eq_true rfl) (sf_13 G h0 a _ _ _ _ _ wt828) dX0_loopStatement_69 (fun H locs w hP hD hS hO => ?_)
      refine lv_aload_n hx hb dX0_loopStatement_72 rfl (lv_at hl 5 rfl) ?_
      refine p_new (s9 := 9) (C := RX4) (T := TX4) (N := 6) (ci := 11) (fs := [.null, .int 0, .int 0, .int 0, .int 0, .int 0]) hx hb hq pin_wsX40 tyX4 tyX4_ok hown (hq _ pw_313) (hq _ pw_314) (hq _ pw_315) hE hP hD hS hA hO rfl nw_X4 (by decide) (fun q => by rw [rep_9 (show (kN K824 q 9 0).1 q = 9 from if_pos rfl)]; unfold fsLoop kN; simp only [if_true]; rfl) (by show 0 + 1 ≤ ((rE (g 2 q) - rS (g 2 q)) + 1); omega) (by show 0 + 6 ≤ (6 * (rE (g 2 q) - rS (g 2 q)) + 6); omega) dX0_loopStatement_73 (fun q886 H w hq887 hP hD hS hO => ?_)
      have hf888 : (kN K824 q886 9 0).1 pq = 7 := (if_neg (fun z => by have z2 := hf846; rw [z, hq887] at z2; exact absurd z2 (by decide))).trans hf846
      have hf889 : (kN K824 q886 9 0).2.2.1 18 pq = some (a 1) := (if_neg (fun z => by have z2 := hf846; rw [z, hq887] at z2; exact absurd z2 (by decide))).trans hf847
      have hf890 : (kN K824 q886 9 0).2.2.1 14 pq = some dr := (if_neg (fun z => by have z2 := hf846; rw [z, hq887] at z2; exact absurd z2 (by decide))).trans hf848
      have hf891 : (kN K824 q886 9 0).1 dr = 8 := (if_neg (fun z => by have z2 := hf849; rw [z, hq887] at z2; exact absurd z2 (by decide))).trans hf849
      have hf892 : (kN K824 q886 9 0).2.2.1 15 pq = some ml := (if_neg (fun z => by have z2 := hf846; rw [z, hq887] at z2; exact absurd z2 (by decide))).trans hf850
      have hf893 : (kN K824 q886 9 0).1 ml = 5 := (if_neg (fun z => by have z2 := hf851; rw [z, hq887] at z2; exact absurd z2 (by decide))).trans hf851
      have hf894 : (kN K824 q886 9 0).2.1 24 pq = (nI nd) := (if_neg (fun z => by have z2 := hf846; rw [z, hq887] at z2; exact absurd z2 (by decide))).trans hf852
      have hf895 : (kN K824 q886 9 0).1 q = 1 := (if_neg (fun z => by have z2 := hf853; rw [z, hq887] at z2; exact absurd z2 (by decide))).trans hf853
      have hf896 : (kN K824 q886 9 0).1 mq = 3 := (if_neg (fun z => by have z2 := hf854; rw [z, hq887] at z2; exact absurd z2 (by decide))).trans hf854
      have hf897 : (kN K824 q886 9 0).2.1 10 mq = (nI rt) := (if_neg (fun z => by have z2 := hf854; rw [z, hq887] at z2; exact absurd z2 (by decide))).trans hf855
      have hf898 : (kN K824 q886 9 0).2.2.1 3 q = some q4 := (if_neg (fun z => by have z2 := hf853; rw [z, hq887] at z2; exact absurd z2 (by decide))).trans hf856
      have hf899 : (kN K824 q886 9 0).1 q4 = 1 := (if_neg (fun z => by have z2 := hf857; rw [z, hq887] at z2; exact absurd z2 (by decide))).trans hf857
      have hf900 : (kN K824 q886 9 0).2.2.1 1 q = ob := (if_neg (fun z => by have z2 := hf853; rw [z, hq887] at z2; exact absurd z2 (by decide))).trans hf858
      have hf901 : (kN K824 q886 9 0).2.2.1 0 q = some z1 := (if_neg (fun z => by have z2 := hf853; rw [z, hq887] at z2; exact absurd z2 (by decide))).trans hf859
      have hf902 : (kN K824 q886 9 0).1 z1 = 1 := (if_neg (fun z => by have z2 := hf860; rw [z, hq887] at z2; exact absurd z2 (by decide))).trans hf860
      have hf903 : (kN K824 q886 9 0).2.2.1 2 q = none := (if_neg (fun z => by have z2 := hf853; rw [z, hq887] at z2; exact absurd z2 (by decide))).trans hf861
      have hf904 : (kN K824 q886 9 0).1 q886 = 9 := if_pos rfl
      refine W.widen (k := 1) (n := 6) (by show 0 + 1 ≤ 1; omega) (by show 0 + 6 ≤ 6; omega) ?_
      refine lv_dup hx hb dX0_loopStatement_76 rfl ?_
      refine lv_aload_n hx hb dX0_loopStatement_77 rfl (lv_at hl 5 rfl) ?_
      refine c_get (v := va_rf lp9) (C := RX0) (Tc := TX0) (N := 13) (ci := 0) hx hb hq pin_wsX00 hown hE hP hO 24 (sg_24 G h0 a _ _ _ _ _) rfl 11 (by decide) (hq _ pw_73) (fun _ h9 => h9) rfl dX0_loopStatement_78 ?_
      refine lv_aload_n hx hb dX0_loopStatement_81 rfl (lv_at hl 5 rfl) ?_
      refine c_get (v := .int ls9) (C := RX0) (Tc := TX0) (N := 13) (ci := 0) hx hb hq pin_wsX00 hown hE hP hO 24 (sg_24 G h0 a _ _ _ _ _) rfl 12 (by decide) (hq _ pw_74) (fun _ h9 => h9) rfl dX0_loopStatement_82 ?_
      have hO : OKP G h0 a (upd (upd (upd (upd (upd (upd (upd (upd (upd (upd F 2 (nI sz)) 5 (nI cs826)) 6 (nI rg)) 7 (nI hd749)) 8 (nI dp750)) 12 (nI vr748)) 13 wt828) 14 wt828) 15 wf829) 16 ls9) (updR (updR (updR R 2 (.ref pq)) 3 (.ref mq)) 4 (va_rf lp9)) Z B825 J (kN K824 q886 9 0) w := hO.to rfl
      obtain ⟨qr908, hqr909⟩ := p_recv hO (by rw [hf904]; decide) (rep_9 hf904)
      refine pc_I0 (G := G) (As := [va_rf lp9, .int ls9]) (rest := [.ref q886, .ref (a 4)]) hx hb hml hown hq hE hX pX0_al hP hD hS hA hl.1 (O_initV l G h0 a (upd (upd (upd (upd (upd (upd (upd (upd (upd (upd F 2 (nI sz)) 5 (nI cs826)) 6 (nI rg)) 7 (nI hd749)) 8 (nI dp750)) 12 (nI vr748)) 13 wt828) 14 wt828) 15 wf829) 16 ls9) (updR (updR (updR R 2 (.ref pq)) 3 (.ref mq)) 4 (va_rf lp9)) Z B825 J (kN K824 q886 9 0) w q886 lp9 ls9 hf904 hO) pw_321 pw_322 pw_315 pw_272 rfl hS_X4_init rfl (Nat.le_of_ble_eq_true rfl) dX0_loopStatement_85 ⟨(by show 1 + 0 ≤ ((rE (g 2 q) - rS (g 2 q)) + 1); omega), (by show 6 + 0 ≤ (6 * (rE (g 2 q) - rS (g 2 q)) + 6); omega)⟩ ⟨(by show 2 + 1 ≤ (5 * n + 46); omega), (by show 8 + (3 + 11) + 60 ≤ (200 * n + 1120); omega)⟩ (fun v907 u905 H locs hw906 hP hD hS => ?_)
      obtain ⟨w, _⟩ := u905
      obtain ⟨hw906, hO⟩ := hw906
      obtain rfl : v907 = none := hw906
      have hf910 : (kI (kI (kI (kI (kI (kC (kN K824 q886 9 0) 16 q886 lp9) 26 q886 ls9) 27 q886 (-1)) 28 q886 (-1)) 29 q886 (-1)) 30 q886 (-1)).1 pq = 7 := hf888
      have hf911 : (kI (kI (kI (kI (kI (kC (kN K824 q886 9 0) 16 q886 lp9) 26 q886 ls9) 27 q886 (-1)) 28 q886 (-1)) 29 q886 (-1)) 30 q886 (-1)).1 dr = 8 := hf891
      have hf912 : (kI (kI (kI (kI (kI (kC (kN K824 q886 9 0) 16 q886 lp9) 26 q886 ls9) 27 q886 (-1)) 28 q886 (-1)) 29 q886 (-1)) 30 q886 (-1)).1 ml = 5 := hf893
      have hf913 : (kI (kI (kI (kI (kI (kC (kN K824 q886 9 0) 16 q886 lp9) 26 q886 ls9) 27 q886 (-1)) 28 q886 (-1)) 29 q886 (-1)) 30 q886 (-1)).1 q = 1 := hf895
      have hf914 : (kI (kI (kI (kI (kI (kC (kN K824 q886 9 0) 16 q886 lp9) 26 q886 ls9) 27 q886 (-1)) 28 q886 (-1)) 29 q886 (-1)) 30 q886 (-1)).1 mq = 3 := hf896
      have hf915 : (kI (kI (kI (kI (kI (kC (kN K824 q886 9 0) 16 q886 lp9) 26 q886 ls9) 27 q886 (-1)) 28 q886 (-1)) 29 q886 (-1)) 30 q886 (-1)).1 q4 = 1 := hf899
      have hf916 : (kI (kI (kI (kI (kI (kC (kN K824 q886 9 0) 16 q886 lp9) 26 q886 ls9) 27 q886 (-1)) 28 q886 (-1)) 29 q886 (-1)) 30 q886 (-1)).1 z1 = 1 := hf902
      have hf917 : (kI (kI (kI (kI (kI (kC (kN K824 q886 9 0) 16 q886 lp9) 26 q886 ls9) 27 q886 (-1)) 28 q886 (-1)) 29 q886 (-1)) 30 q886 (-1)).1 q886 = 9 := hf904
      have hO : OKP G h0 a (upd (upd (upd (upd (upd (upd (upd (upd (upd (upd F 2 (nI sz)) 5 (nI cs826)) 6 (nI rg)) 7 (nI hd749)) 8 (nI dp750)) 12 (nI vr748)) 13 wt828) 14 wt828) 15 wf829) 16 ls9) (updR (updR (updR R 2 (.ref pq)) 3 (.ref mq)) 4 (va_rf lp9)) Z B825 J (kI (kI (kI (kI (kI (kC (kN K824 q886 9 0) 16 q886 lp9) 26 q886 ls9) 27 q886 (-1)) 28 q886 (-1)) 29 q886 (-1)) 30 q886 (-1)) w := hO.to rfl
      refine W.widen (k := 1) (n := 6) (by show 1 + 0 ≤ 1; omega) (by show 6 + 0 ≤ 6; omega) ?_
      refine W.eq (g2 := F0 m 88 ls [.ref q886, .ref (a 4)]) rfl ?_
      obtain ⟨K918, hK919⟩ : ∃ z : PK, z = (kI (kI (kI (kI (kI (kC (kN K824 q886 9 0) 16 q886 lp9) 26 q886 ls9) 27 q886 (-1)) 28 q886 (-1)) 29 q886 (-1)) 30 q886 (-1)) := ⟨_, rfl⟩
      rw [← hK919] at hO
      have hbx920 : BdE K824 K918 := by rw [hK919]; exact BdE.loop hq887
      have hbe921 := BdE.trans hbe862 hbx920
      have hf922 : K918.1 pq = 7 := (BdE.T hbx920 hf846 (by decide))
      have hf923 : K918.2.2.1 18 pq = some (a 1) := (BdE.C hbx920 (by rw [hf846]; decide) 18).trans hf847
      have hf924 : K918.2.2.1 14 pq = some dr := (BdE.C hbx920 (by rw [hf846]; decide) 14).trans hf848
      have hf925 : K918.1 dr = 8 := (BdE.T hbx920 hf849 (by decide))
      have hf926 : K918.2.2.1 15 pq = some ml := (BdE.C hbx920 (by rw [hf846]; decide) 15).trans hf850
      have hf927 : K918.1 ml = 5 := (BdE.T hbx920 hf851 (by decide))
      have hf928 : K918.2.1 24 pq = (nI nd) := (BdE.I hbx920 (by rw [hf846]; decide) (by decide) (by decide)).trans hf852
      have hf929 : K918.1 q = 1 := (BdE.T hbx920 hf853 (by decide))
      have hf930 : K918.1 mq = 3 := (BdE.T hbx920 hf854 (by decide))
      have hf931 : K918.2.1 10 mq = (nI rt) := (BdE.I hbx920 (by rw [hf854]; decide) (by decide) (by decide)).trans hf855
      have hf932 : K918.2.2.1 3 q = some q4 := (BdE.C hbx920 (by rw [hf853]; decide) 3).trans hf856
      have hf933 : K918.1 q4 = 1 := (BdE.T hbx920 hf857 (by decide))
      have hf934 : K918.2.2.1 1 q = ob := (BdE.C hbx920 (by rw [hf853]; decide) 1).trans hf858
      have hf935 : K918.2.2.1 0 q = some z1 := (BdE.C hbx920 (by rw [hf853]; decide) 0).trans hf859
      have hf936 : K918.1 z1 = 1 := (BdE.T hbx920 hf860 (by decide))
      have hf937 : K918.2.2.1 2 q = none := (BdE.C hbx920 (by rw [hf853]; decide) 2).trans hf861
      have hf938 : K918.1 q886 = 9 := by rw [hK919]; exact if_pos rfl
      have hf939 : K918.2.2.1 16 q886 = lp9 := by rw [hK919]; exact kC_eq
      have hbf940 : BeF K824 K918 := by rw [hK919]; exact BeF.loop hq887
      have hbl941 : BeL K824 K918 none := by rw [hK919]; exact BeL.loop hq887
      have hbf942 := BeF.trans hbf873 hbf940 hbe862
      have hbl943 : BeL K K918 lp9 := BeL.trans hbl875 (BeL.any hbl941) hbe862
      have hlf944 : K918.2.1 27 q886 = -1 := by rw [hK919]; exact loop_27
      have hlf945 : K918.2.1 28 q886 = -1 := by rw [hK919]; exact loop_28
      have hlf946 : K918.2.1 29 q886 = -1 := by rw [hK919]; exact loop_29
      have hlf947 : K918.2.1 30 q886 = -1 := by rw [hK919]; exact loop_30
      have hbk948 : BeL K742 K918 none := BeL.trans hbk883 (BeL.any hbl941) hbj884
      have hbj949 : BdE K742 K918 := BdE.trans hbj884 hbx920
      have hlr950 : LpR K918 lp9 rL := LpR.same hlr885 (fun lq9 e9 f9 _ _ => hbl941 lq9 (LpO.be hbe862 hlo lq9 e9) (fun z => by cases z) f9)
      have hbk951 : BeL K742 K918 (some q886) := BeL.any hbk948
      have hinn : K.1 q886 = 0 := BdE.fr hbe862 hq887
      refine c_put (v := .ref q886) (ty := (.object "JinjaTongue$Loop")) (C := RX0) (Tc := TX0) (N := 13) (ci := 0) hx hb hq pin_wsX00 tyX0 tyX0_ok nmX0 hown hE hP hD hS hO 24 (sg_24 G h0 a _ _ _ _ _) rfl 11 (by decide) (hq _ pw_73) (fun _ h9 => h9) rfl (by decide +kernel) rfl rfl (Nat.le_of_ble_eq_true rfl) (sr_4 G h0 a _ _ _ _ _ (.ref q886)) dX0_loopStatement_88 (fun H locs w hP hD hS hO => ?_)
      refine lv_aload_n hx hb dX0_loopStatement_91 rfl (lv_at hl 5 rfl) ?_
      refine lv_aload_n hx hb dX0_loopStatement_92 rfl (lv_at hl 6 rfl) ?_
      refine p_get (v := .ref q4) (C := RX7) (Tc := TX7) (N := 11) (ci := 13) hx hb hq pin_wsX70 hown hE hP hO (by rw [hf929]; decide) (rep_1 hf929) rfl 9 (by decide) (hq _ pw_316) (fun _ h9 => h9) (congrArg (fun z => some (va_rf z)) hf932) dX0_loopStatement_93 ?_
      refine lv_iconst (v := 1) hx hb dX0_loopStatement_96 (by decide) ?_
      have htl952 : tlE g q4 = rE (g 2 q4) - rS (g 2 q4) := rfl
      have hO : OKP G h0 a (upd (upd (upd (upd (upd (upd (upd (upd (upd (upd (upd (upd (upd (upd (upd (upd (upd (upd (upd (upd (upd (upd (upd F 2 (nI sz)) 5 (nI cs)) 6 (nI rg)) 7 (nI hd)) 8 (nI dp)) 12 (nI vr)) 13 as9) 16 ls9) 5 (nI cs826)) 7 (nI hd749)) 8 (nI dp750)) 12 (nI vr748)) 13 wt828) 14 wt828) 15 wf829) 2 (nI sz)) 5 (nI cs826)) 6 (nI rg)) 7 (nI hd749)) 8 (nI dp750)) 12 (nI vr748)) 13 wt828) 16 ls9) (updR (updR (updR (updR (updR (updR R 2 (.ref pq)) 3 (.ref mq)) 4 (.ref q886)) 2 (.ref pq)) 3 (.ref mq)) 4 (va_rf (some q886))) Z B825 J K918 w := hO.to rfl
      obtain ⟨_, qr956, hqr957⟩ := hO.2.1 24 _ (sg_24 G h0 a _ _ _ _ _)
      refine pn_V0 (G := G) (As := [.ref q4, .int (nI 1)]) (rest := []) hx hb hml hown hq hE hX pX0_al hP hD hS hA hl.1 ((ist (n - 1) (by omega)) h0 a (upd (upd (upd (upd (upd (upd (upd (upd (upd (upd (upd (upd (upd (upd (upd F 2 (nI sz)) 5 (nI cs)) 6 (nI rg)) 7 (nI hd)) 8 (nI dp)) 12 (nI vr)) 13 as9) 16 ls9) 5 (nI cs826)) 7 (nI hd749)) 8 (nI dp750)) 12 (nI vr748)) 13 wt828) 14 wt828) 15 wf829) (updR (updR (updR R 2 (.ref pq)) 3 (.ref mq)) 4 (.ref q886)) Z B825 J K918 w pq dr ml nd nm cp it s9 q4 mq cs826 vr748 sz 1 hd749 dp750 rg ls9 (some q886) g rk pb Ag831 Q9 pd832 sl752 m9 lw c0 rt gr wt828 hd749 sl752 ([] : List Nat) ([] : List Nat) (¬ as745 = -1) (by omega) (BdE.wp hbe921 hwp) (BdE.pt hbe921 hwp hps) (BdE.rko hbe921 hrk) (by omega) (by omega) hng864 hf930 hf933 ⟨hv3.1, (by have z9 := hv3; omega)⟩ hf931 hrv (by omega) (by omega) (by omega) (fun x9 h9 => by cases h9; exact hf938) (EkA.be hbe921 (hbr874 7 (by decide)) (hbr874 11 (by decide)) hek) (OwC.be hbe921 hmq hdr0 hcO) (NaB.be hbe921 hbf942 hwp hps.2.1 hdr0 (hbr874 11 (by decide)) hna) hen878 h841.2.1 hst880.1 (by omega) (by omega) (by omega) (SkA.be hbe921 (hbr874 11 (by decide)) hsk) (LpS.new hlf944 hlf945 hlf946 hlf947 (fun z9 h9 => by rcases (h845 z9).mp h9 with y9 | y9; (have v9 := hlp797.1 z9 y9; omega); (have v9 := (ExJ.rng h844 z9 y9).2; omega))) hrq879 hst880.2.2.2.2.2.1 (LpR.new hlf946 hlf947) (by omega) hO hl0) (gV pw_300 pw_301 pw_302 pw_63 pw_323) hV_X0_statement qr956 0 hqr957 rfl rfl rfl (Nat.le_of_ble_eq_true rfl) dX0_loopStatement_97 ⟨(by show 1 + ((rE (g 2 q4) - rS (g 2 q4)) + 1) ≤ ((rE (g 2 q) - rS (g 2 q)) + 1); omega), (by show 6 + (6 * (rE (g 2 q4) - rS (g 2 q4)) + 6) ≤ (6 * (rE (g 2 q) - rS (g 2 q)) + 6); omega)⟩ ⟨(by show (5 * (n - 1) + 50) + 1 ≤ (5 * n + 46); omega), (by show 8 + (3 + 11) + (200 * (n - 1) + 1200) ≤ (200 * n + 1120); omega)⟩ (fun v955 u953 H locs hw954 hP hD hS => ?_) (fun ux ce9 q9 H9 locs9 hux hP9 hD9 hS9 hce hcv hcl => pb_out ux (ThQ.up (Thx.same (Thx.same (Thx.same (Thx.same (Thx.same (Thx.same (Thx.same (Thx.same (Thx.f (Thx.f (Thx.f (Thx.f (Thx.f (Thx.f (Thx.f (Bth.thx hbb863) (by omega)) (by omega)) (by omega)) (by omega)) (by omega)) (by omega)) (by omega)) rfl) rfl) rfl) rfl) rfl) rfl) rfl) rfl) (show RhX (updR (updR (updR R 2 (.ref pq)) 3 (.ref mq)) 4 (va_rf lp9)) (updR (updR (updR (updR (updR (updR R 2 (.ref pq)) 3 (.ref mq)) 4 (.ref q886)) 2 (.ref pq)) 3 (.ref mq)) 4 (va_rf (some q886))) from fun k9 hk9 => by unfold updR; simp only [show ¬ k9 = 1 by omega, show ¬ k9 = 2 by omega, show ¬ k9 = 3 by omega, show ¬ k9 = 4 by omega, if_false]) hux) hnt hlocks hce hcv hcl hP9 hD9 hS9 (by show 1 + ((rE (g 2 q4) - rS (g 2 q4)) + 1) ≤ ((rE (g 2 q) - rS (g 2 q)) + 1); omega) (by show 6 + (6 * (rE (g 2 q4) - rS (g 2 q4)) + 6) ≤ (6 * (rE (g 2 q) - rS (g 2 q)) + 6); omega))
      obtain ⟨w, K958, B959, cs960, as961, wt962, wf963, vr964, hd965, dp966, Ag967, sl968, rg969, gr970, ls971, Q972, pd973, xb974, xc975⟩ := u953
      obtain ⟨hw954, h976, h977, h978, h979, h980, h981, h982, h983, h984, h985, h986, h987, h988, h989, h990, h991, h992, h993, h994, h995, hO⟩ := hw954
      have h976 : SmW B825 B959 cs826 := h976
      have h977 : BdE K918 K958 := h977
      have h978 : BeF K918 K958 := h978
      have h979 : BeL K918 K958 (some q886) := h979
      have h980 : Bth B825 B959 := h980
      have h981 : BtR B825 B959 := h981
      have h982 : cs826 ≤ cs960 ∧ cs960 + 0 ≤ cs826 + 2 * tlE g q4 := h982
      have h983 : dp750 ≤ dp966 ∧ dp966 ≤ 71 := h983
      have h984 : vr748 ≤ vr964 ∧ vr964 ≤ 30 ∧ hd965 + vr748 = hd749 + vr964 := h984
      have h985 : AsO as961 := h985
      have h986 : VrS B825 B959 vr748 := h986
      have h987 : cs826 < cs960 ∨ (hd965 = hd749 ∧ sl968 = sl752) := h987
      have h988 : ¬ K918.2.1 0 q4 = 22 → hd965 = hd749 := h988
      have h989 : gr ≤ gr970 ∧ rg969 ≤ 625 ∧ rg969 ≤ gr970 ∧ (rg969 = 625 ∨ rg969 = gr970) := h989
      have h990 : EnV (B959 26) (B959 27) nd vr964 hd965 c0 sl968 := h990
      have h991 : StW pb.1 pb.2.1 pb.2.2.1 pb.2.2.2 Ag831 Ag967 Q9 Q972 pd832 pd973 m9 dp966 lw cs826 cs960 wt828 as961 hd749 hd965 sl752 sl968 gr gr970 (B959 16) (B959 17) (B959 18) (B959 19) [] := h991
      have h992 : LpS K958 (B959 16) (B959 17) Ag967 pd973 (some q886) lw cs960 hd965 sl968 hd749 sl752 xb974 xc975 := h992
      have h993 : PdS pd832 pd973 ([] : List Nat) xb974 ([] : List Nat) xc975 [] cs826 cs960 := h993
      have h994 : RgQx B959 Q972 gr970 nd := h994
      have h995 : LpR K958 (some q886) (¬ as745 = -1) := h995
      obtain rfl : v955 = none := hw954
      have hf996 : K958.1 pq = 7 := (BdE.T h977 hf922 (by decide))
      have hf997 : K958.2.2.1 18 pq = some (a 1) := (BdE.C h977 (by rw [hf922]; decide) 18).trans hf923
      have hf998 : K958.2.2.1 14 pq = some dr := (BdE.C h977 (by rw [hf922]; decide) 14).trans hf924
      have hf999 : K958.1 dr = 8 := (BdE.T h977 hf925 (by decide))
      have hf1000 : K958.2.2.1 15 pq = some ml := (BdE.C h977 (by rw [hf922]; decide) 15).trans hf926
      have hf1001 : K958.1 ml = 5 := (BdE.T h977 hf927 (by decide))
      have hf1002 : K958.2.1 24 pq = (nI nd) := (BdE.I h977 (by rw [hf922]; decide) (by decide) (by decide)).trans hf928
      have hf1003 : K958.1 q = 1 := (BdE.T h977 hf929 (by decide))
      have hf1004 : K958.1 mq = 3 := (BdE.T h977 hf930 (by decide))
      have hf1005 : K958.2.1 10 mq = (nI rt) := (BdE.I h977 (by rw [hf930]; decide) (by decide) (by decide)).trans hf931
      have hf1006 : K958.2.2.1 3 q = some q4 := (BdE.C h977 (by rw [hf929]; decide) 3).trans hf932
      have hf1007 : K958.1 q4 = 1 := (BdE.T h977 hf933 (by decide))
      have hf1008 : K958.2.2.1 1 q = ob := (BdE.C h977 (by rw [hf929]; decide) 1).trans hf934
      have hf1009 : K958.2.2.1 0 q = some z1 := (BdE.C h977 (by rw [hf929]; decide) 0).trans hf935
      have hf1010 : K958.1 z1 = 1 := (BdE.T h977 hf936 (by decide))
      have hf1011 : K958.2.2.1 2 q = none := (BdE.C h977 (by rw [hf929]; decide) 2).trans hf937
      have hf1012 : K958.1 q886 = 9 := (BdE.T h977 hf938 (by decide))
      have hf1013 : K958.2.2.1 16 q886 = lp9 := (BdE.C h977 (by rw [hf938]; decide) 16).trans hf939
      have hO : OKP G h0 a (upd (upd (upd (upd (upd (upd (upd (upd (upd (upd F 2 (nI sz)) 5 (nI cs960)) 6 (nI rg969)) 7 (nI hd965)) 8 (nI dp966)) 12 (nI vr964)) 13 as961) 14 wt962) 15 wf963) 16 ls971) (updR (updR (updR R 2 (.ref pq)) 3 (.ref mq)) 4 (.ref q886)) Z B959 J K958 w := hO.to rfl
      refine W.widen (k := (1 + (rE (g 2 q4) - rS (g 2 q4)))) (n := (6 + (6 * (rE (g 2 q4) - rS (g 2 q4))))) (by show 1 + (rE (g 2 q4) - rS (g 2 q4)) ≤ (1 + (rE (g 2 q4) - rS (g 2 q4))); omega) (by show 6 + (6 * (rE (g 2 q4) - rS (g 2 q4))) ≤ (6 + (6 * (rE (g 2 q4) - rS (g 2 q4)))); omega) ?_
      refine W.eq (g2 := F0 m 100 ls []) rfl ?_
      have hbe1014 := BdE.trans hbe921 h977
      have hbb1015 : Bth B B959 := Bth.trans (show Thx (upd (upd (upd (upd (upd (upd (upd (upd F 2 (nI sz)) 5 (nI cs)) 6 (nI rg)) 7 (nI hd)) 8 (nI dp)) 12 (nI vr)) 13 as9) 16 ls9) (upd (upd (upd (upd (upd (upd (upd (upd (upd (upd (upd (upd (upd (upd (upd F 2 (nI sz)) 5 (nI cs)) 6 (nI rg)) 7 (nI hd)) 8 (nI dp)) 12 (nI vr)) 13 as9) 16 ls9) 5 (nI cs826)) 7 (nI hd749)) 8 (nI dp750)) 12 (nI vr748)) 13 wt828) 14 wt828) 15 wf829) B B825 from (Thx.f (Thx.f (Thx.f (Thx.f (Thx.f (Thx.f (Thx.f (Bth.thx hbb863) (by omega)) (by omega)) (by omega)) (by omega)) (by omega)) (by omega)) (by omega))).2 h980
      have hng1016 : Nng (B959 18) := h980.2 hng864
      have hsw1017 : ∀ x9 : Nat, x9 < cs → (B959 16) x9 = B 16 x9 := fun x9 hx9 => ((h976 x9 (by omega)).1).trans (hsw865 x9 hx9)
      have hsw1018 : ∀ x9 : Nat, x9 < cs → (B959 17) x9 = B 17 x9 := fun x9 hx9 => ((h976 x9 (by omega)).2.1).trans (hsw866 x9 hx9)
      have hsw1019 : ∀ x9 : Nat, x9 < cs → (B959 18) x9 = B 18 x9 := fun x9 hx9 => ((h976 x9 (by omega)).2.2.1).trans (hsw867 x9 hx9)
      have hsw1020 : ∀ x9 : Nat, x9 < cs → (B959 19) x9 = B 19 x9 := fun x9 hx9 => ((h976 x9 (by omega)).2.2.2).trans (hsw868 x9 hx9)
      have hsx1021 : ∀ x9 : Nat, x9 < cs744 → (B959 16) x9 = (B743 16) x9 := fun x9 hx9 => ((h976 x9 (by omega)).1).trans (hsx869 x9 hx9)
      have hsx1022 : ∀ x9 : Nat, x9 < cs744 → (B959 17) x9 = (B743 17) x9 := fun x9 hx9 => ((h976 x9 (by omega)).2.1).trans (hsx870 x9 hx9)
      have hsx1023 : ∀ x9 : Nat, x9 < cs744 → (B959 18) x9 = (B743 18) x9 := fun x9 hx9 => ((h976 x9 (by omega)).2.2.1).trans (hsx871 x9 hx9)
      have hsx1024 : ∀ x9 : Nat, x9 < cs744 → (B959 19) x9 = (B743 19) x9 := fun x9 hx9 => ((h976 x9 (by omega)).2.2.2).trans (hsx872 x9 hx9)
      have hbf1025 := BeF.trans hbf942 h978 hbe921
      have hbl1027 : BeL K K958 lp9 := BeL.new hbl943 hbe921 hinn h979
      have hbr1026 : BtR B B959 := BtR.trans hbr874 h981
      have hvs1028 : VrS B B959 vr := VrS.trans hvs876 h986 (by omega)
      have hvF1029 : VrS B743 B959 vr748 := VrS.trans hvF877 h986 (by omega)
      have hst1030 : StW pb.1 pb.2.1 pb.2.2.1 pb.2.2.2 Ag751 Ag967 Q9 Q972 pd pd973 m9 dp966 lw cs744 cs960 as745 as961 hd749 hd965 sl752 sl968 gr gr970 (B959 16) (B959 17) (B959 18) (B959 19) ([] : List Nat) := StW.seq hst880 (by omega) (fun x9 hx9 => ⟨(h976 x9 hx9).1, (h976 x9 hx9).2.1⟩) h991
      have hsn1031 := hst1030.1.2.2.2.1
      have hj1032 : (B959 16) cs744 = (nI 0) := ((h976 cs744 (by omega)).1).trans hj881
      have hj1033 : Ag967 cs744 = (rcA as745, hd749, sl752, ([] : List Nat)) := (h991.2.2.1 cs744 (by omega)).trans hj882
      have hex1034 : ExJ (B959 16) (B959 17) Ag967 x830 ex833 lw (cs744 + 1) cs826 hd749 sl752 wt828 wf829 := ExJ.same h844 (fun z8 hz8 => ⟨(h976 z8 (by omega)).1, (h976 z8 (by omega)).2.1⟩) (fun z8 hz8 => h991.2.2.1 z8 (by omega))
      have hbk1035 : BeL K742 K958 (some q886) := BeL.trans hbk951 h979 hbj949
      have hbj1036 : BdE K742 K958 := BdE.trans hbj949 h977
      have hlr1037 : LpR K958 lp9 rL := LpR.same hlr950 (fun lq9 e9 f9 _ _ => h979 lq9 (LpO.be hbe921 hlo lq9 e9) (fun z => by have y9 := hlo lq9 e9; have v9 := Option.some.inj z; rw [← v9, hinn] at y9; exact absurd y9 (by decide)) f9)
      have hnlhd965 : hd965 = hd749 := h988 (by rw [BdE.I hbe921 (by rw [hsd2.1]; decide) (by decide) (by decide)]; exact hsd2.2)
      obtain rfl : vr748 = vr964 := by omega
      obtain rfl : hd749 = hd965 := hnlhd965.symm
      have h976 : SmW B825 B959 cs826 := h976
      have h977 : BdE K918 K958 := h977
      have h978 : BeF K918 K958 := h978
      have h979 : BeL K918 K958 (some q886) := h979
      have h980 : Bth B825 B959 := h980
      have h981 : BtR B825 B959 := h981
      have h982 : cs826 ≤ cs960 ∧ cs960 + 0 ≤ cs826 + 2 * tlE g q4 := h982
      have h983 : dp750 ≤ dp966 ∧ dp966 ≤ 71 := h983
      have h984 : vr748 ≤ vr748 ∧ vr748 ≤ 30 ∧ hd749 + vr748 = hd749 + vr748 := h984
      have h985 : AsO as961 := h985
      have h986 : VrS B825 B959 vr748 := h986
      have h987 : cs826 < cs960 ∨ (hd749 = hd749 ∧ sl968 = sl752) := h987
      have h988 : ¬ K918.2.1 0 q4 = 22 → hd749 = hd749 := h988
      have h989 : gr ≤ gr970 ∧ rg969 ≤ 625 ∧ rg969 ≤ gr970 ∧ (rg969 = 625 ∨ rg969 = gr970) := h989
      have h990 : EnV (B959 26) (B959 27) nd vr748 hd749 c0 sl968 := h990
      have h991 : StW pb.1 pb.2.1 pb.2.2.1 pb.2.2.2 Ag831 Ag967 Q9 Q972 pd832 pd973 m9 dp966 lw cs826 cs960 wt828 as961 hd749 hd749 sl752 sl968 gr gr970 (B959 16) (B959 17) (B959 18) (B959 19) [] := h991
      have h992 : LpS K958 (B959 16) (B959 17) Ag967 pd973 (some q886) lw cs960 hd749 sl968 hd749 sl752 xb974 xc975 := h992
      have h993 : PdS pd832 pd973 ([] : List Nat) xb974 ([] : List Nat) xc975 [] cs826 cs960 := h993
      have h994 : RgQx B959 Q972 gr970 nd := h994
      have h995 : LpR K958 (some q886) (¬ as745 = -1) := h995
      have hlpi := h992
      obtain ⟨hi1, hi2, hi3, hi4, hi5, hi6, hi7, hi8, hi9, hi10⟩ := LpS.c hlpi
      have hidis := (hlpi.2.2 q886 rfl).2
      have hpdi := h993
      have hlri := h995 q886 rfl
      obtain ⟨bv, hbv⟩ : ∃ z : Int32, K958.2.1 27 q886 = z := ⟨_, rfl⟩
      obtain ⟨cv, hcv⟩ : ∃ z : Int32, K958.2.1 28 q886 = z := ⟨_, rfl⟩
      obtain ⟨bsv, hbsv⟩ : ∃ z : Int32, K958.2.1 29 q886 = z := ⟨_, rfl⟩
      obtain ⟨csv, hcsv⟩ : ∃ z : Int32, K958.2.1 30 q886 = z := ⟨_, rfl⟩
      rw [hbv] at hi1
      rw [hcv] at hi2
      rw [hbsv] at hi3 hi5 hlri
      rw [hcsv] at hi4 hi6 hlri
      have hgeb : ∀ z9 : Nat, z9 ∈ xb974 → cs826 ≤ z9 := fun z9 hz9 => (hpdi.2.2.2.2.1 z9 hz9).resolve_left (List.not_mem_nil)
      have hgec : ∀ z9 : Nat, z9 ∈ xc975 → cs826 ≤ z9 := fun z9 hz9 => (hpdi.2.2.2.2.2.1 z9 hz9).resolve_left (List.not_mem_nil)
      have hbrq : BrJ (B959 16) (B959 17) Ag967 bv bsv xb974 lw cs960 hd749 sl752 := ⟨hi1, hi3⟩
      refine lv_aload_n hx hb dX0_loopStatement_100 rfl (lv_at hl 5 rfl) ?_
      refine c_get (v := .ref (a 2)) (C := RX0) (Tc := TX0) (N := 13) (ci := 0) hx hb hq pin_wsX00 hown hE hP hO 24 (sg_24 G h0 a _ _ _ _ _) rfl 1 (by decide) (hq _ pw_5) (fun _ h9 => h9) rfl dX0_loopStatement_101 ?_
      refine lv_aload_n hx hb dX0_loopStatement_104 rfl (lv_at hl 5 rfl) ?_
      refine c_get (v := .ref q886) (C := RX0) (Tc := TX0) (N := 13) (ci := 0) hx hb hq pin_wsX00 hown hE hP hO 24 (sg_24 G h0 a _ _ _ _ _) rfl 11 (by decide) (hq _ pw_73) (fun _ h9 => h9) rfl dX0_loopStatement_105 ?_
      refine p_get (v := .int cv) (C := RX4) (Tc := TX4) (N := 6) (ci := 11) hx hb hq pin_wsX40 hown hE hP hO (by rw [hf1012]; decide) (rep_9 hf1012) rfl 3 (by decide) (hq _ pw_284) (fun _ h9 => h9) (congrArg (fun z => some (Value.int z)) hcv) dX0_loopStatement_108 ?_
      have hao1038 := AsO.and h985 hi6
      have hO : OKW G h0 a (upd (upd (upd (upd (upd (upd (upd (upd (upd (upd (upd F 2 (nI sz)) 5 (nI cs960)) 6 (nI rg969)) 7 (nI hd749)) 8 (nI dp966)) 12 (nI vr748)) 13 as961) 14 wt962) 15 wf963) 16 ls971) 5 (nI cs960)) (updR (updR (updR R 2 (.ref pq)) 3 (.ref mq)) 4 (.ref q886)) Z B959 J K958.1 (fun q99 x99 => x99 = rep G a K958 q99) w := hO.to rfl
      obtain ⟨_, qr1042, hqr1043⟩ := hO.2.1 13 _ (sg_13 G h0 a _ _ _ _ _)
      refine pc_V0 (G := G) (As := [.int cv]) (rest := []) hx hb hml hown hq hE hX pX0_al hP hD hS hA hl.1 (Y_land l G h0 a (upd (upd (upd (upd (upd (upd (upd (upd (upd (upd F 2 (nI sz)) 5 (nI cs960)) 6 (nI rg969)) 7 (nI hd749)) 8 (nI dp966)) 12 (nI vr748)) 13 as961) 14 wt962) 15 wf963) 16 ls971) (updR (updR (updR R 2 (.ref pq)) 3 (.ref mq)) 4 (.ref q886)) Z B959 J K958.1 (fun q99 x99 => x99 = rep G a K958 q99) w cv cs960 xc975 (by omega) hi2 (fun y9 hy9 => (hi4 y9 hy9).2.1) hO) (gV pw_200 pw_201 pw_202 pw_70 pw_134) hV_X1_land qr1042 1 hqr1043 rfl rfl rfl (Nat.le_of_ble_eq_true rfl) dX0_loopStatement_111 ⟨(by show (1 + (rE (g 2 q4) - rS (g 2 q4))) + 0 ≤ ((rE (g 2 q) - rS (g 2 q)) + 1); omega), (by show (6 + (6 * (rE (g 2 q4) - rS (g 2 q4)))) + 0 ≤ (6 * (rE (g 2 q) - rS (g 2 q)) + 6); omega)⟩ ⟨(by show 2 + 1 ≤ (5 * n + 46); omega), (by show 8 + (5 + 11) + 60 ≤ (200 * n + 1120); omega)⟩ (fun v1041 u1039 H locs hw1040 hP hD hS => ?_)
      obtain ⟨w, _⟩ := u1039
      obtain ⟨hw1040, hO⟩ := hw1040
      obtain rfl : v1041 = none := hw1040
      have hO : OKP G h0 a (upd (upd (upd (upd (upd (upd (upd (upd (upd (upd F 2 (nI sz)) 5 (nI cs960)) 6 (nI rg969)) 7 (nI hd749)) 8 (nI dp966)) 12 (nI vr748)) 13 as961) 14 wt962) 15 wf963) 16 ls971) (updR (updR (updR R 2 (.ref pq)) 3 (.ref mq)) 4 (.ref q886)) Z (updA B959 17 (aim ((B959 17)) xc975 cs960)) J K958 w := hO.to rfl
      refine W.widen (k := (1 + (rE (g 2 q4) - rS (g 2 q4)))) (n := (6 + (6 * (rE (g 2 q4) - rS (g 2 q4))))) (by show (1 + (rE (g 2 q4) - rS (g 2 q4))) + 0 ≤ (1 + (rE (g 2 q4) - rS (g 2 q4))); omega) (by show (6 + (6 * (rE (g 2 q4) - rS (g 2 q4)))) + 0 ≤ (6 + (6 * (rE (g 2 q4) - rS (g 2 q4)))); omega) ?_
      refine W.eq (g2 := F0 m 114 ls []) rfl ?_
      have hsw1044 : ∀ x9 : Nat, x9 < cs → (aim ((B959 17)) xc975 cs960) x9 = B 17 x9 := fun x9 hx9 => (aim_no (fun q9 => by have e9 := hgec x9 q9; omega)).trans (hsw1018 x9 hx9)
      have hsx1045 : ∀ x9 : Nat, x9 < cs744 → (aim ((B959 17)) xc975 cs960) x9 = (B743 17) x9 := fun x9 hx9 => (aim_no (fun q9 => by have e9 := hgec x9 q9; omega)).trans (hsx1022 x9 hx9)
      obtain ⟨Ag1046, hst1047, hag1048⟩ : ∃ A5 : Nat → AS, StW pb.1 pb.2.1 pb.2.2.1 pb.2.2.2 Ag751 A5 Q9 Q972 pd (pdm pd973 xc975) m9 dp966 lw cs744 cs960 as745 (as961 &&& csv) hd749 hd749 sl752 sl752 gr gr970 (B959 16) (aim ((B959 17)) xc975 cs960) (B959 18) (B959 19) ([] : List Nat) ∧ ∀ x9 : Nat, x9 < cs960 → A5 x9 = Ag967 x9 := ⟨(upS Ag967 cs960 (rcA (as961 &&& csv), hd749, sl752, ([] : List Nat))), StW.lnd (bs := csv) hst1030 hi8 hi4 (fun z9 => and_n2 z9) (fun z9 => and_n1 z9) (fun z9 hz9 => by have y9 := hgec z9 hz9; omega) ⟨by omega, by omega⟩ (fun z9 e9 => z9 (and_m1.mpr ⟨Classical.byContradiction fun y9 => hst1030.2.2.2.2.2.1 y9 e9, Classical.byContradiction fun y9 => hlri.2 y9 e9⟩)) hwfF (by omega), fun x9 hx9 => upS_ne (by omega)⟩
      have hen1049 := EnV.back h765 hvF1029
      have hj1050 : (B959 16) cs744 = (nI 0) := (rfl).trans hj1032
      have hj1051 : Ag1046 cs744 = (rcA as745, hd749, sl752, ([] : List Nat)) := (hag1048 cs744 (by omega)).trans hj1033
      have hex1052 : ExJ (B959 16) (aim ((B959 17)) xc975 cs960) Ag1046 x830 ex833 lw (cs744 + 1) cs826 hd749 sl752 wt828 wf829 := ExJ.land hex1034 (fun z8 hz8 => ⟨rfl, aim_no (fun q9 => by have e9 := hgec z8 q9; omega)⟩) (by omega) hag1048 hst1047.1.1.2 hst1030.1.1.2 (fun z9 => and_n1 z9)
      have hbq1053 : BrJ (B959 16) (aim ((B959 17)) xc975 cs960) Ag1046 bv bsv xb974 lw cs960 hd749 sl752 := BrJ.same hbrq (fun z9 hz9 => by have y9 := BrJ.lt hbrq z9 hz9; have y8 := hgeb z9 hz9; exact ⟨rfl, aim_no (fun q9 => by have e9 := (absurd q9 (hidis z9 hz9) : (0 : Nat) = 1); omega), hag1048 z9 (by omega)⟩) (by omega)
      refine lv_aload_n hx hb dX0_loopStatement_114 rfl (lv_at hl 6 rfl) ?_
      refine p_get (v := .null) (C := RX7) (Tc := TX7) (N := 11) (ci := 13) hx hb hq pin_wsX70 hown hE hP hO (by rw [hf1003]; decide) (rep_1 hf1003) rfl 8 (by decide) (hq _ pw_196) (fun _ h9 => h9) (congrArg (fun z => some (va_rf z)) hf1011) dX0_loopStatement_115 ?_
      refine lv_ifnullN (tgt := 146) hx hb dX0_loopStatement_118 (by decide) ?_
      refine lv_aload_n hx hb dX0_loopStatement_146 rfl (lv_at hl 5 rfl) ?_
      refine c_get (v := .ref (a 2)) (C := RX0) (Tc := TX0) (N := 13) (ci := 0) hx hb hq pin_wsX00 hown hE hP hO 24 (sg_24 G h0 a _ _ _ _ _) rfl 1 (by decide) (hq _ pw_5) (fun _ h9 => h9) rfl dX0_loopStatement_147 ?_
      refine lv_bipush (v := 6) hx hb dX0_loopStatement_150 (by decide) ?_
      refine lv_iload hx hb dX0_loopStatement_152 (lv_at hl 2 rfl) ?_
      refine lv_iconst (v := 0) hx hb dX0_loopStatement_154 (by decide) ?_
      have hO : OKW G h0 a (upd (upd (upd (upd (upd (upd (upd (upd (upd (upd (upd (upd F 2 (nI sz)) 5 (nI cs960)) 6 (nI rg969)) 7 (nI hd749)) 8 (nI dp966)) 12 (nI vr748)) 13 as961) 14 wt962) 15 wf963) 16 ls971) 5 (nI cs960)) 7 (nI hd749)) (updR (updR (updR R 2 (.ref pq)) 3 (.ref mq)) 4 (.ref q886)) Z (updA B959 17 (aim ((B959 17)) xc975 cs960)) J K958.1 (fun q99 x99 => x99 = rep G a K958 q99) w := hO.to rfl
      obtain ⟨_, qr1057, hqr1058⟩ := hO.2.1 13 _ (sg_13 G h0 a _ _ _ _ _)
      refine pc_V0 (G := G) (As := [.int 6, .int (nI cs744), .int 0]) (rest := []) hx hb hml hown hq hE hX pX0_al hP hD hS hA hl.1 (Y_emit l G h0 a (upd (upd (upd (upd (upd (upd (upd (upd (upd (upd F 2 (nI sz)) 5 (nI cs960)) 6 (nI rg969)) 7 (nI hd749)) 8 (nI dp966)) 12 (nI vr748)) 13 as961) 14 wt962) 15 wf963) 16 ls971) (updR (updR (updR R 2 (.ref pq)) 3 (.ref mq)) 4 (.ref q886)) Z (updA B959 17 (aim ((B959 17)) xc975 cs960)) J K958.1 (fun q99 x99 => x99 = rep G a K958 q99) w 6 (nI cs744) 0 cs960 hd749 (by omega) hO) (gV pw_129 pw_130 pw_131 pw_70 pw_115) hV_X1_emit qr1057 1 hqr1058 rfl rfl rfl (Nat.le_of_ble_eq_true rfl) dX0_loopStatement_155 ⟨(by show (1 + (rE (g 2 q4) - rS (g 2 q4))) + 0 ≤ ((rE (g 2 q) - rS (g 2 q)) + 1); omega), (by show (6 + (6 * (rE (g 2 q4) - rS (g 2 q4)))) + 0 ≤ (6 * (rE (g 2 q) - rS (g 2 q)) + 6); omega)⟩ ⟨(by show 2 + 1 ≤ (5 * n + 46); omega), (by show 8 + (4 + 11) + 60 ≤ (200 * n + 1120); omega)⟩ (fun v1056 u1054 H locs hw1055 hP hD hS => ?_)
      obtain ⟨w, _⟩ := u1054
      obtain ⟨hw1055, hO⟩ := hw1055
      obtain rfl : v1056 = none := hw1055
      have hO : OKP G h0 a (upd (upd (upd (upd (upd (upd (upd (upd (upd (upd F 2 (nI sz)) 5 (nI (cs960 + 1))) 6 (nI rg969)) 7 (nI hd749)) 8 (nI dp966)) 12 (nI vr748)) 13 as961) 14 wt962) 15 wf963) 16 ls971) (updR (updR (updR R 2 (.ref pq)) 3 (.ref mq)) 4 (.ref q886)) Z (updA (updA (updA (updA B959 16 (upd ((B959 16)) cs960 6)) 17 (upd ((aim ((B959 17)) xc975 cs960)) cs960 (nI cs744))) 18 (upd ((B959 18)) cs960 0)) 19 (upd ((B959 19)) cs960 (nI hd749))) J K958 w := hO.to rfl
      refine W.widen (k := (1 + (rE (g 2 q4) - rS (g 2 q4)))) (n := (6 + (6 * (rE (g 2 q4) - rS (g 2 q4))))) (by show (1 + (rE (g 2 q4) - rS (g 2 q4))) + 0 ≤ (1 + (rE (g 2 q4) - rS (g 2 q4))); omega) (by show (6 + (6 * (rE (g 2 q4) - rS (g 2 q4)))) + 0 ≤ (6 + (6 * (rE (g 2 q4) - rS (g 2 q4)))); omega) ?_
      refine W.eq (g2 := F0 m 158 ls []) rfl ?_
      have hsw1059 : ∀ x9 : Nat, x9 < cs → (upd ((B959 16)) cs960 6) x9 = B 16 x9 := fun x9 hx9 => (if_neg (by omega)).trans (hsw1017 x9 hx9)
      have hsw1060 : ∀ x9 : Nat, x9 < cs → (upd ((aim ((B959 17)) xc975 cs960)) cs960 (nI cs744)) x9 = B 17 x9 := fun x9 hx9 => (if_neg (by omega)).trans (hsw1044 x9 hx9)
      have hsw1061 : ∀ x9 : Nat, x9 < cs → (upd ((B959 18)) cs960 0) x9 = B 18 x9 := fun x9 hx9 => (if_neg (by omega)).trans (hsw1019 x9 hx9)
      have hsw1062 : ∀ x9 : Nat, x9 < cs → (upd ((B959 19)) cs960 (nI hd749)) x9 = B 19 x9 := fun x9 hx9 => (if_neg (by omega)).trans (hsw1020 x9 hx9)
      have hsx1063 : ∀ x9 : Nat, x9 < cs744 → (upd ((B959 16)) cs960 6) x9 = (B743 16) x9 := fun x9 hx9 => (if_neg (by omega)).trans (hsx1021 x9 hx9)
      have hsx1064 : ∀ x9 : Nat, x9 < cs744 → (upd ((aim ((B959 17)) xc975 cs960)) cs960 (nI cs744)) x9 = (B743 17) x9 := fun x9 hx9 => (if_neg (by omega)).trans (hsx1045 x9 hx9)
      have hsx1065 : ∀ x9 : Nat, x9 < cs744 → (upd ((B959 18)) cs960 0) x9 = (B743 18) x9 := fun x9 hx9 => (if_neg (by omega)).trans (hsx1023 x9 hx9)
      have hsx1066 : ∀ x9 : Nat, x9 < cs744 → (upd ((B959 19)) cs960 (nI hd749)) x9 = (B743 19) x9 := fun x9 hx9 => (if_neg (by omega)).trans (hsx1024 x9 hx9)
      obtain ⟨Ag1067, hst1068, hag1069⟩ : ∃ A5 : Nat → AS, StW pb.1 pb.2.1 pb.2.2.1 pb.2.2.2 Ag751 A5 Q9 Q972 pd (pdm pd973 xc975) m9 dp966 lw cs744 (cs960 + 1) as745 (-1) hd749 hd749 sl752 sl752 gr gr970 (upd ((B959 16)) cs960 6) (upd ((aim ((B959 17)) xc975 cs960)) cs960 (nI cs744)) (upd ((B959 18)) cs960 0) (upd ((B959 19)) cs960 (nI hd749)) ([] : List Nat) ∧ ∀ x9 : Nat, x9 ≤ cs960 → A5 x9 = Ag1046 x9 := ⟨(upS Ag1046 (cs960 + 1) (rcA (-1), hd749, sl752, ([] : List Nat))), StW.back hst1047 ⟨by omega, by omega⟩ hj1050 (fun z9 => by rw [hj1051]; exact ⟨rcA_1 (hst1047.2.2.2.2.2.1 z9), hst1047.2.2.2.2.2.2.1.1, fun s9 hs9 => (hst1047.2.2.2.2.2.2.1.2 s9 hs9).symm, trivial⟩), fun x9 hx9 => upS_ne (by omega)⟩
      have hng1070 : Nng (upd ((B959 18)) cs960 0) := Nng.set hng1016 (k := 0) (by omega)
      have hj1071 : (upd ((B959 16)) cs960 6) cs744 = (nI 0) := (if_neg (by omega)).trans hj1050
      have hj1072 : Ag1067 cs744 = (rcA as745, hd749, sl752, ([] : List Nat)) := (hag1069 cs744 (by omega)).trans hj1051
      have hex1073 : ExJ (upd ((B959 16)) cs960 6) (upd ((aim ((B959 17)) xc975 cs960)) cs960 (nI cs744)) Ag1067 x830 ex833 lw (cs744 + 1) cs826 hd749 sl752 wt828 wf829 := ExJ.same hex1052 (fun z8 hz8 => ⟨if_neg (by omega), if_neg (by omega)⟩) (fun z8 hz8 => hag1069 z8 (by omega))
      have hbq1074 : BrJ (upd ((B959 16)) cs960 6) (upd ((aim ((B959 17)) xc975 cs960)) cs960 (nI cs744)) Ag1067 bv bsv xb974 lw (cs960 + 1) hd749 sl752 := BrJ.same hbq1053 (fun z9 hz9 => by have y9 := BrJ.lt hbq1053 z9 hz9; have y8 := hgeb z9 hz9; exact ⟨if_neg (by omega), if_neg (by omega), hag1069 z9 (by omega)⟩) (by omega)
      refine lv_aload_n hx hb dX0_loopStatement_158 rfl (lv_at hl 5 rfl) ?_
      refine c_get (v := .ref (a 2)) (C := RX0) (Tc := TX0) (N := 13) (ci := 0) hx hb hq pin_wsX00 hown hE hP hO 24 (sg_24 G h0 a _ _ _ _ _) rfl 1 (by decide) (hq _ pw_5) (fun _ h9 => h9) rfl dX0_loopStatement_159 ?_
      refine lv_iload hx hb dX0_loopStatement_162 (lv_at hl 1 rfl) ?_
      have hO : OKW G h0 a (upd (upd (upd (upd (upd (upd (upd (upd (upd (upd (upd F 2 (nI sz)) 5 (nI (cs960 + 1))) 6 (nI rg969)) 7 (nI hd749)) 8 (nI dp966)) 12 (nI vr748)) 13 as961) 14 wt962) 15 wf963) 16 ls971) 5 (nI (cs960 + 1))) (updR (updR (updR R 2 (.ref pq)) 3 (.ref mq)) 4 (.ref q886)) Z (updA (updA (updA (updA B959 16 (upd ((B959 16)) cs960 6)) 17 (upd ((aim ((B959 17)) xc975 cs960)) cs960 (nI cs744))) 18 (upd ((B959 18)) cs960 0)) 19 (upd ((B959 19)) cs960 (nI hd749))) J K958.1 (fun q99 x99 => x99 = rep G a K958 q99) w := hO.to rfl
      obtain ⟨_, qr1078, hqr1079⟩ := hO.2.1 13 _ (sg_13 G h0 a _ _ _ _ _)
      refine pc_V0 (G := G) (As := [.int x830]) (rest := []) hx hb hml hown hq hE hX pX0_al hP hD hS hA hl.1 (Y_land l G h0 a (upd (upd (upd (upd (upd (upd (upd (upd (upd (upd F 2 (nI sz)) 5 (nI (cs960 + 1))) 6 (nI rg969)) 7 (nI hd749)) 8 (nI dp966)) 12 (nI vr748)) 13 as961) 14 wt962) 15 wf963) 16 ls971) (updR (updR (updR R 2 (.ref pq)) 3 (.ref mq)) 4 (.ref q886)) Z (updA (updA (updA (updA B959 16 (upd ((B959 16)) cs960 6)) 17 (upd ((aim ((B959 17)) xc975 cs960)) cs960 (nI cs744))) 18 (upd ((B959 18)) cs960 0)) 19 (upd ((B959 19)) cs960 (nI hd749))) J K958.1 (fun q99 x99 => x99 = rep G a K958 q99) w x830 (cs960 + 1) ex833 (by omega) (ExJ.chn hex1073) (fun y9 hy9 => by have v9 := (ExJ.rng hex1073 y9 hy9).2; omega) hO) (gV pw_200 pw_201 pw_202 pw_70 pw_134) hV_X1_land qr1078 1 hqr1079 rfl rfl rfl (Nat.le_of_ble_eq_true rfl) dX0_loopStatement_164 ⟨(by show (1 + (rE (g 2 q4) - rS (g 2 q4))) + 0 ≤ ((rE (g 2 q) - rS (g 2 q)) + 1); omega), (by show (6 + (6 * (rE (g 2 q4) - rS (g 2 q4)))) + 0 ≤ (6 * (rE (g 2 q) - rS (g 2 q)) + 6); omega)⟩ ⟨(by show 2 + 1 ≤ (5 * n + 46); omega), (by show 8 + (5 + 11) + 60 ≤ (200 * n + 1120); omega)⟩ (fun v1077 u1075 H locs hw1076 hP hD hS => ?_)
      obtain ⟨w, _⟩ := u1075
      obtain ⟨hw1076, hO⟩ := hw1076
      obtain rfl : v1077 = none := hw1076
      have hO : OKP G h0 a (upd (upd (upd (upd (upd (upd (upd (upd (upd (upd F 2 (nI sz)) 5 (nI (cs960 + 1))) 6 (nI rg969)) 7 (nI hd749)) 8 (nI dp966)) 12 (nI vr748)) 13 as961) 14 wt962) 15 wf963) 16 ls971) (updR (updR (updR R 2 (.ref pq)) 3 (.ref mq)) 4 (.ref q886)) Z (updA (updA (updA (updA B959 16 (upd ((B959 16)) cs960 6)) 17 (aim ((upd ((aim ((B959 17)) xc975 cs960)) cs960 (nI cs744))) ex833 (cs960 + 1))) 18 (upd ((B959 18)) cs960 0)) 19 (upd ((B959 19)) cs960 (nI hd749))) J K958 w := hO.to rfl
      refine W.widen (k := (1 + (rE (g 2 q4) - rS (g 2 q4)))) (n := (6 + (6 * (rE (g 2 q4) - rS (g 2 q4))))) (by show (1 + (rE (g 2 q4) - rS (g 2 q4))) + 0 ≤ (1 + (rE (g 2 q4) - rS (g 2 q4))); omega) (by show (6 + (6 * (rE (g 2 q4) - rS (g 2 q4)))) + 0 ≤ (6 + (6 * (rE (g 2 q4) - rS (g 2 q4)))); omega) ?_
      refine W.eq (g2 := F0 m 167 ls []) rfl ?_
      have hsw1080 : ∀ x9 : Nat, x9 < cs → (aim ((upd ((aim ((B959 17)) xc975 cs960)) cs960 (nI cs744))) ex833 (cs960 + 1)) x9 = B 17 x9 := fun x9 hx9 => (aim_no (fun q9 => by have e9 := (fun z9 hz9 => (ExJ.rng hex1073 z9 hz9).1) x9 q9; omega)).trans (hsw1060 x9 hx9)
      have hsx1081 : ∀ x9 : Nat, x9 < cs744 → (aim ((upd ((aim ((B959 17)) xc975 cs960)) cs960 (nI cs744))) ex833 (cs960 + 1)) x9 = (B743 17) x9 := fun x9 hx9 => (aim_no (fun q9 => by have e9 := (fun z9 hz9 => (ExJ.rng hex1073 z9 hz9).1) x9 q9; omega)).trans (hsx1064 x9 hx9)
      obtain ⟨Ag1082, hst1083, hag1084⟩ : ∃ A5 : Nat → AS, StW pb.1 pb.2.1 pb.2.2.1 pb.2.2.2 Ag751 A5 Q9 Q972 pd (pdm (pdm pd973 xc975) ex833) m9 dp966 lw cs744 (cs960 + 1) as745 wf829 hd749 hd749 sl752 sl752 gr gr970 (upd ((B959 16)) cs960 6) (aim ((upd ((aim ((B959 17)) xc975 cs960)) cs960 (nI cs744))) ex833 (cs960 + 1)) (upd ((B959 18)) cs960 0) (upd ((B959 19)) cs960 (nI hd749)) ([] : List Nat) ∧ ∀ x9 : Nat, x9 < (cs960 + 1) → A5 x9 = Ag1067 x9 := ⟨(upS Ag1067 (cs960 + 1) (rcA wf829, hd749, sl752, ([] : List Nat))), StW.exit hst1068 (ExJ.dn hex1073 (by omega)) (by omega) (by omega) h842 hwfF (by omega), fun x9 hx9 => upS_ne (by omega)⟩
      have hj1085 : (upd ((B959 16)) cs960 6) cs744 = (nI 0) := (rfl).trans hj1071
      have hj1086 : Ag1082 cs744 = (rcA as745, hd749, sl752, ([] : List Nat)) := (hag1084 cs744 (by omega)).trans hj1072
      have hbq1087 : BrJ (upd ((B959 16)) cs960 6) (aim ((upd ((aim ((B959 17)) xc975 cs960)) cs960 (nI cs744))) ex833 (cs960 + 1)) Ag1082 bv bsv xb974 lw (cs960 + 1) hd749 sl752 := BrJ.same hbq1074 (fun z9 hz9 => by have y9 := BrJ.lt hbq1074 z9 hz9; have y8 := hgeb z9 hz9; exact ⟨rfl, aim_no (fun q9 => by have e9 := (ExJ.rng hex1073 z9 q9); omega), hag1084 z9 (by omega)⟩) (by omega)
      refine lv_aload_n hx hb dX0_loopStatement_167 rfl (lv_at hl 5 rfl) ?_
      refine c_get (v := .ref (a 2)) (C := RX0) (Tc := TX0) (N := 13) (ci := 0) hx hb hq pin_wsX00 hown hE hP hO 24 (sg_24 G h0 a _ _ _ _ _) rfl 1 (by decide) (hq _ pw_5) (fun _ h9 => h9) rfl dX0_loopStatement_168 ?_
      refine lv_aload_n hx hb dX0_loopStatement_171 rfl (lv_at hl 5 rfl) ?_
      refine c_get (v := .ref q886) (C := RX0) (Tc := TX0) (N := 13) (ci := 0) hx hb hq pin_wsX00 hown hE hP hO 24 (sg_24 G h0 a _ _ _ _ _) rfl 11 (by decide) (hq _ pw_73) (fun _ h9 => h9) rfl dX0_loopStatement_172 ?_
      refine p_get (v := .int bv) (C := RX4) (Tc := TX4) (N := 6) (ci := 11) hx hb hq pin_wsX40 hown hE hP hO (by rw [hf1012]; decide) (rep_9 hf1012) rfl 2 (by decide) (hq _ pw_282) (fun _ h9 => h9) (congrArg (fun z => some (Value.int z)) hbv) dX0_loopStatement_175 ?_
      have hao1088 := AsO.and h841.2.2 hi5
      have hO : OKW G h0 a (upd (upd (upd (upd (upd (upd (upd (upd (upd (upd (upd F 2 (nI sz)) 5 (nI (cs960 + 1))) 6 (nI rg969)) 7 (nI hd749)) 8 (nI dp966)) 12 (nI vr748)) 13 as961) 14 wt962) 15 wf963) 16 ls971) 5 (nI (cs960 + 1))) (updR (updR (updR R 2 (.ref pq)) 3 (.ref mq)) 4 (.ref q886)) Z (updA (updA (updA (updA B959 16 (upd ((B959 16)) cs960 6)) 17 (aim ((upd ((aim ((B959 17)) xc975 cs960)) cs960 (nI cs744))) ex833 (cs960 + 1))) 18 (upd ((B959 18)) cs960 0)) 19 (upd ((B959 19)) cs960 (nI hd749))) J K958.1 (fun q99 x99 => x99 = rep G a K958 q99) w := hO.to rfl
      obtain ⟨_, qr1092, hqr1093⟩ := hO.2.1 13 _ (sg_13 G h0 a _ _ _ _ _)
      refine pc_V0 (G := G) (As := [.int bv]) (rest := []) hx hb hml hown hq hE hX pX0_al hP hD hS hA hl.1 (Y_land l G h0 a (upd (upd (upd (upd (upd (upd (upd (upd (upd (upd F 2 (nI sz)) 5 (nI (cs960 + 1))) 6 (nI rg969)) 7 (nI hd749)) 8 (nI dp966)) 12 (nI vr748)) 13 as961) 14 wt962) 15 wf963) 16 ls971) (updR (updR (updR R 2 (.ref pq)) 3 (.ref mq)) 4 (.ref q886)) Z (updA (updA (updA (updA B959 16 (upd ((B959 16)) cs960 6)) 17 (aim ((upd ((aim ((B959 17)) xc975 cs960)) cs960 (nI cs744))) ex833 (cs960 + 1))) 18 (upd ((B959 18)) cs960 0)) 19 (upd ((B959 19)) cs960 (nI hd749))) J K958.1 (fun q99 x99 => x99 = rep G a K958 q99) w bv (cs960 + 1) xb974 (by omega) hbq1087.1 (BrJ.lt hbq1087) hO) (gV pw_200 pw_201 pw_202 pw_70 pw_134) hV_X1_land qr1092 1 hqr1093 rfl rfl rfl (Nat.le_of_ble_eq_true rfl) dX0_loopStatement_178 ⟨(by show (1 + (rE (g 2 q4) - rS (g 2 q4))) + 0 ≤ ((rE (g 2 q) - rS (g 2 q)) + 1); omega), (by show (6 + (6 * (rE (g 2 q4) - rS (g 2 q4)))) + 0 ≤ (6 * (rE (g 2 q) - rS (g 2 q)) + 6); omega)⟩ ⟨(by show 2 + 1 ≤ (5 * n + 46); omega), (by show 8 + (5 + 11) + 60 ≤ (200 * n + 1120); omega)⟩ (fun v1091 u1089 H locs hw1090 hP hD hS => ?_)
      obtain ⟨w, _⟩ := u1089
      obtain ⟨hw1090, hO⟩ := hw1090
      obtain rfl : v1091 = none := hw1090
      have hO : OKP G h0 a (upd (upd (upd (upd (upd (upd (upd (upd (upd (upd F 2 (nI sz)) 5 (nI (cs960 + 1))) 6 (nI rg969)) 7 (nI hd749)) 8 (nI dp966)) 12 (nI vr748)) 13 as961) 14 wt962) 15 wf963) 16 ls971) (updR (updR (updR R 2 (.ref pq)) 3 (.ref mq)) 4 (.ref q886)) Z (updA (updA (updA (updA B959 16 (upd ((B959 16)) cs960 6)) 17 (aim ((aim ((upd ((aim ((B959 17)) xc975 cs960)) cs960 (nI cs744))) ex833 (cs960 + 1))) xb974 (cs960 + 1))) 18 (upd ((B959 18)) cs960 0)) 19 (upd ((B959 19)) cs960 (nI hd749))) J K958 w := hO.to rfl
      refine W.widen (k := (1 + (rE (g 2 q4) - rS (g 2 q4)))) (n := (6 + (6 * (rE (g 2 q4) - rS (g 2 q4))))) (by show (1 + (rE (g 2 q4) - rS (g 2 q4))) + 0 ≤ (1 + (rE (g 2 q4) - rS (g 2 q4))); omega) (by show (6 + (6 * (rE (g 2 q4) - rS (g 2 q4)))) + 0 ≤ (6 + (6 * (rE (g 2 q4) - rS (g 2 q4)))); omega) ?_
      refine W.eq (g2 := F0 m 181 ls []) rfl ?_
      have hsw1094 : ∀ x9 : Nat, x9 < cs → (aim ((aim ((upd ((aim ((B959 17)) xc975 cs960)) cs960 (nI cs744))) ex833 (cs960 + 1))) xb974 (cs960 + 1)) x9 = B 17 x9 := fun x9 hx9 => (aim_no (fun q9 => by have e9 := hgeb x9 q9; omega)).trans (hsw1080 x9 hx9)
      have hsx1095 : ∀ x9 : Nat, x9 < cs744 → (aim ((aim ((upd ((aim ((B959 17)) xc975 cs960)) cs960 (nI cs744))) ex833 (cs960 + 1))) xb974 (cs960 + 1)) x9 = (B743 17) x9 := fun x9 hx9 => (aim_no (fun q9 => by have e9 := hgeb x9 q9; omega)).trans (hsx1081 x9 hx9)
      obtain ⟨Ag1096, hst1097, hag1098⟩ : ∃ A5 : Nat → AS, StW pb.1 pb.2.1 pb.2.2.1 pb.2.2.2 Ag751 A5 Q9 Q972 pd (pdm (pdm (pdm pd973 xc975) ex833) xb974) m9 dp966 lw cs744 (cs960 + 1) as745 (wf829 &&& bsv) hd749 hd749 sl752 sl752 gr gr970 (upd ((B959 16)) cs960 6) (aim ((aim ((upd ((aim ((B959 17)) xc975 cs960)) cs960 (nI cs744))) ex833 (cs960 + 1))) xb974 (cs960 + 1)) (upd ((B959 18)) cs960 0) (upd ((B959 19)) cs960 (nI hd749)) ([] : List Nat) ∧ ∀ x9 : Nat, x9 < (cs960 + 1) → A5 x9 = Ag1082 x9 := ⟨(upS Ag1082 (cs960 + 1) (rcA (wf829 &&& bsv), hd749, sl752, ([] : List Nat))), StW.lnd (bs := bsv) hst1083 (fun z9 hz9 => ⟨⟨hi7 z9 hz9, fun q9 => hidis z9 hz9 q9⟩, fun q9 => by have y9 := hgeb z9 hz9; have y8 := (ExJ.rng hex1073 z9 q9).2; omega⟩) hbq1087.2 (fun z9 => and_n2 z9) (fun z9 => and_n1 z9) (fun z9 hz9 => by have y9 := hgeb z9 hz9; omega) ⟨by omega, by omega⟩ (fun z9 e9 => z9 (and_m1.mpr ⟨Classical.byContradiction fun y9 => h842 y9 e9, Classical.byContradiction fun y9 => hlri.1 y9 e9⟩)) hwfF (by omega), fun x9 hx9 => upS_ne (by omega)⟩
      have hj1099 : (upd ((B959 16)) cs960 6) cs744 = (nI 0) := (rfl).trans hj1085
      have hj1100 : Ag1096 cs744 = (rcA as745, hd749, sl752, ([] : List Nat)) := (hag1098 cs744 (by omega)).trans hj1086
      refine lv_aload_n hx hb dX0_loopStatement_181 rfl (lv_at hl 5 rfl) ?_
      refine lv_iload hx hb dX0_loopStatement_182 (lv_at hl 0 rfl) ?_
      refine lv_aload_n hx hb dX0_loopStatement_184 rfl (lv_at hl 5 rfl) ?_
      refine c_get (v := .ref q886) (C := RX0) (Tc := TX0) (N := 13) (ci := 0) hx hb hq pin_wsX00 hown hE hP hO 24 (sg_24 G h0 a _ _ _ _ _) rfl 11 (by decide) (hq _ pw_73) (fun _ h9 => h9) rfl dX0_loopStatement_185 ?_
      refine p_get (v := .int bsv) (C := RX4) (Tc := TX4) (N := 6) (ci := 11) hx hb hq pin_wsX40 hown hE hP hO (by rw [hf1012]; decide) (rep_9 hf1012) rfl 4 (by decide) (hq _ pw_283) (fun _ h9 => h9) (congrArg (fun z => some (Value.int z)) hbsv) dX0_loopStatement_188 ?_
      refine lv_iand hx hb dX0_loopStatement_191 ?_
      refine lv_topi (fun x1101 e1102 => ?_)
      obtain rfl : x1101 = (wf829 &&& bsv) := e1102
      refine c_put (v := .int (wf829 &&& bsv)) (ty := .int) (C := RX0) (Tc := TX0) (N := 13) (ci := 0) hx hb hq pin_wsX00 tyX0 tyX0_ok nmX0 hown hE hP hD hS hO 24 (sg_24 G h0 a _ _ _ _ _) rfl 8 (by decide) (hq _ pw_55) (fun _ h9 => h9) rfl (by decide +kernel) rfl rfl (Nat.le_of_ble_eq_true rfl) (sf_13 G h0 a _ _ _ _ _ (wf829 &&& bsv)) dX0_loopStatement_192 (fun H locs w hP hD hS hO => ?_)
      refine lv_aload_n hx hb dX0_loopStatement_195 rfl (lv_at hl 5 rfl) ?_
      refine lv_aload_n hx hb dX0_loopStatement_196 rfl (lv_at hl 5 rfl) ?_
      refine c_get (v := .ref q886) (C := RX0) (Tc := TX0) (N := 13) (ci := 0) hx hb hq pin_wsX00 hown hE hP hO 24 (sg_24 G h0 a _ _ _ _ _) rfl 11 (by decide) (hq _ pw_73) (fun _ h9 => h9) rfl dX0_loopStatement_197 ?_
      refine p_get (v := va_rf lp9) (C := RX4) (Tc := TX4) (N := 6) (ci := 11) hx hb hq pin_wsX40 hown hE hP hO (by rw [hf1012]; decide) (rep_9 hf1012) rfl 0 (by decide) (hq _ pw_317) (fun _ h9 => h9) (congrArg (fun z => some (va_rf z)) hf1013) dX0_loopStatement_200 ?_
      refine c_put (v := va_rf lp9) (ty := (.object "JinjaTongue$Loop")) (C := RX0) (Tc := TX0) (N := 13) (ci := 0) hx hb hq pin_wsX00 tyX0 tyX0_ok nmX0 hown hE hP hD hS hO 24 (sg_24 G h0 a _ _ _ _ _) rfl 11 (by decide) (hq _ pw_73) (fun _ h9 => h9) rfl (by decide +kernel) (by cases lp9 <;> first | rfl | exact Nat.le_of_ble_eq_true rfl) (by cases lp9 <;> first | rfl | exact Nat.le_of_ble_eq_true rfl) (by cases lp9 <;> first | rfl | exact Nat.le_of_ble_eq_true rfl) (sr_4 G h0 a _ _ _ _ _ (va_rf lp9)) dX0_loopStatement_203 (fun H locs w hP hD hS hO => ?_)
      refine lv_aload_n hx hb dX0_loopStatement_206 rfl (lv_at hl 5 rfl) ?_
      refine lv_iload_n hx hb dX0_loopStatement_207 rfl (lv_at hl 4 rfl) ?_
      refine lv_iload_n hx hb dX0_loopStatement_208 rfl (lv_at hl 3 rfl) ?_
      have hstL : StW pb.1 pb.2.1 pb.2.2.1 pb.2.2.2 Ag Ag1096 Q9 Q972 pd (pdm (pdm (pdm pd973 xc975) ex833) xb974) m9 dp966 lw cs (cs960 + 1) as9 (wf829 &&& bsv) hd hd749 sl sl752 gr gr970 (upd ((B959 16)) cs960 6) (aim ((aim ((upd ((aim ((B959 17)) xc975 cs960)) cs960 (nI cs744))) ex833 (cs960 + 1))) xb974 (cs960 + 1)) (upd ((B959 18)) cs960 0) (upd ((B959 19)) cs960 (nI hd749)) ([] : List Nat) := StW.seq hst794 (by omega) (fun x9 hx9 => ⟨hsx1063 x9 hx9, hsx1095 x9 hx9⟩) hst1097
      have hpdL : PdS pd (pdm (pdm (pdm pd973 xc975) ex833) xb974) xb xb xc xc ([] : List Nat) cs (cs960 + 1) := PdS.loop hpd798 hlp797.1 h845 (fun z9 hz9 => by have y9 := (ExJ.rng hex1073 z9 hz9).1; omega) hpdi (by omega) (by omega)
      have hlpL : LpS K958 (upd ((B959 16)) cs960 6) (aim ((aim ((upd ((aim ((B959 17)) xc975 cs960)) cs960 (nI cs744))) ex833 (cs960 + 1))) xb974 (cs960 + 1)) Ag1096 (pdm (pdm (pdm pd973 xc975) ex833) xb974) lp9 lw (cs960 + 1) hd749 sl752 hdL slL xb xc := LpS.same hlp797 (fun lq9 e9 f9 _ _ => hbk1035 lq9 (LpO.be hbe783 hlo lq9 e9) (fun z => by have y9 := hlo lq9 e9; have v9 := Option.some.inj z; rw [← v9, hinn] at y9; exact absurd y9 (by decide)) f9) (fun z9 hz9 => ⟨hsx1063 z9 hz9, hsx1095 z9 hz9, hst1097.2.2.1 z9 (by omega)⟩) (fun z9 h9 => ⟨⟨⟨hpdi.1 z9 ((h845 z9).mpr (Or.inl h9)), fun q9 => by have y9 := hgec z9 q9; have y8 := hlp797.1 z9 h9; omega⟩, fun q9 => by have y9 := (ExJ.rng hex1073 z9 q9).1; have y8 := hlp797.1 z9 h9; omega⟩, fun q9 => by have y9 := hgeb z9 q9; have y8 := hlp797.1 z9 h9; omega⟩) (fun z9 h9 => by have v9 := hlpi.1 z9 h9.1.1.1; omega) (by omega) hst1097.2.2.2.2.2.2.1
      have hO : OKW G h0 a (upd (upd (upd (upd (upd (upd (upd (upd (upd (upd F 2 (nI sz)) 5 (nI (cs960 + 1))) 6 (nI rg969)) 7 (nI hd749)) 8 (nI dp966)) 12 (nI vr748)) 13 (wf829 &&& bsv)) 14 wt962) 15 wf963) 16 ls971) (updR (updR (updR R 2 (.ref pq)) 3 (.ref mq)) 4 (va_rf lp9)) Z (updA (updA (updA (updA B959 16 (upd ((B959 16)) cs960 6)) 17 (aim ((aim ((upd ((aim ((B959 17)) xc975 cs960)) cs960 (nI cs744))) ex833 (cs960 + 1))) xb974 (cs960 + 1))) 18 (upd ((B959 18)) cs960 0)) 19 (upd ((B959 19)) cs960 (nI hd749))) J K958.1 (fun q99 x99 => x99 = rep G a K958 q99) w := hO.to rfl
      obtain ⟨_, qr1106, hqr1107⟩ := hO.2.1 24 _ (sg_24 G h0 a _ _ _ _ _)
      refine pc_V0 (G := G) (As := [.int (nI vr), .int (nI hd)]) (rest := []) hx hb hml hown hq hE hX pX0_al hP hD hS hA hl.1 (B_endScope l G h0 a (upd (upd (upd (upd (upd (upd (upd (upd (upd (upd F 2 (nI sz)) 5 (nI (cs960 + 1))) 6 (nI rg969)) 7 (nI hd749)) 8 (nI dp966)) 12 (nI vr748)) 13 (wf829 &&& bsv)) 14 wt962) 15 wf963) 16 ls971) (updR (updR (updR R 2 (.ref pq)) 3 (.ref mq)) 4 (va_rf lp9)) Z (updA (updA (updA (updA B959 16 (upd ((B959 16)) cs960 6)) 17 (aim ((aim ((upd ((aim ((B959 17)) xc975 cs960)) cs960 (nI cs744))) ex833 (cs960 + 1))) xb974 (cs960 + 1))) 18 (upd ((B959 18)) cs960 0)) 19 (upd ((B959 19)) cs960 (nI hd749))) J K958.1 (fun q99 x99 => x99 = rep G a K958 q99) w (nI vr) (nI hd) hO) (gV pw_303 pw_304 pw_305 pw_63 pw_99) hV_X0_endScope qr1106 0 hqr1107 rfl rfl rfl (Nat.le_of_ble_eq_true rfl) dX0_loopStatement_209 ⟨(by show (1 + (rE (g 2 q4) - rS (g 2 q4))) + 0 ≤ ((rE (g 2 q) - rS (g 2 q)) + 1); omega), (by show (6 + (6 * (rE (g 2 q4) - rS (g 2 q4)))) + 0 ≤ (6 * (rE (g 2 q) - rS (g 2 q)) + 6); omega)⟩ ⟨(by show 2 + 1 ≤ (5 * n + 46); omega), (by show 8 + (3 + 11) + 60 ≤ (200 * n + 1120); omega)⟩ (fun v1105 u1103 H locs hw1104 hP hD hS => ?_)
      obtain ⟨w, _⟩ := u1103
      obtain ⟨hw1104, hO⟩ := hw1104
      obtain rfl : v1105 = none := hw1104
      have hO : OKP G h0 a (upd (upd (upd (upd (upd (upd (upd (upd (upd (upd F 2 (nI sz)) 5 (nI (cs960 + 1))) 6 (nI rg969)) 7 (nI hd)) 8 (nI dp966)) 12 (nI vr)) 13 (wf829 &&& bsv)) 14 wt962) 15 wf963) 16 ls971) (updR (updR (updR R 2 (.ref pq)) 3 (.ref mq)) 4 (va_rf lp9)) Z (updA (updA (updA (updA B959 16 (upd ((B959 16)) cs960 6)) 17 (aim ((aim ((upd ((aim ((B959 17)) xc975 cs960)) cs960 (nI cs744))) ex833 (cs960 + 1))) xb974 (cs960 + 1))) 18 (upd ((B959 18)) cs960 0)) 19 (upd ((B959 19)) cs960 (nI hd749))) J K958 w := hO.to rfl
      refine W.widen (k := (1 + (rE (g 2 q4) - rS (g 2 q4)))) (n := (6 + (6 * (rE (g 2 q4) - rS (g 2 q4))))) (by show (1 + (rE (g 2 q4) - rS (g 2 q4))) + 0 ≤ (1 + (rE (g 2 q4) - rS (g 2 q4))); omega) (by show (6 + (6 * (rE (g 2 q4) - rS (g 2 q4)))) + 0 ≤ (6 + (6 * (rE (g 2 q4) - rS (g 2 q4)))); omega) ?_
      refine W.eq (g2 := F0 m 212 ls []) rfl ?_
      obtain ⟨Ag1108, hst1109, hag1110⟩ : ∃ A5 : Nat → AS, StW pb.1 pb.2.1 pb.2.2.1 pb.2.2.2 Ag A5 Q9 Q972 pd (pdm (pdm (pdm pd973 xc975) ex833) xb974) m9 dp966 lw cs (cs960 + 1) as9 (wf829 &&& bsv) hd hd sl sl gr gr970 (upd ((B959 16)) cs960 6) (aim ((aim ((upd ((aim ((B959 17)) xc975 cs960)) cs960 (nI cs744))) ex833 (cs960 + 1))) xb974 (cs960 + 1)) (upd ((B959 18)) cs960 0) (upd ((B959 19)) cs960 (nI hd749)) ([] : List Nat) ∧ ∀ x9 : Nat, x9 < (cs960 + 1) → A5 x9 = Ag1096 x9 := StW.scope2 hstL (Or.inl (by omega)) (by omega) hwfa (by omega)
      have hlp1111 : LpS K958 (upd ((B959 16)) cs960 6) (aim ((aim ((upd ((aim ((B959 17)) xc975 cs960)) cs960 (nI cs744))) ex833 (cs960 + 1))) xb974 (cs960 + 1)) Ag1108 (pdm (pdm (pdm pd973 xc975) ex833) xb974) lp9 lw (cs960 + 1) hd sl hdL slL xb xc := LpS.same (LpS.to hlpL hlp) (fun _ _ _ _ _ => rfl) (fun z9 hz9 => ⟨rfl, rfl, hag1110 z9 hz9⟩) (fun _ h9 => h9) hlpL.1 (Nat.le_refl _) ⟨Nat.le_refl _, fun _ _ => rfl⟩
      have hen1112 : EnV (B959 26) (B959 27) nd vr hd c0 sl := EnV.back hen hvs1028
      refine W_size (fun hz1 hz2 => ?_)
      refine vx_ret ?_
      have hz1113 : SmW B (updA (updA (updA (updA B959 16 (upd ((B959 16)) cs960 6)) 17 (aim ((aim ((upd ((aim ((B959 17)) xc975 cs960)) cs960 (nI cs744))) ex833 (cs960 + 1))) xb974 (cs960 + 1))) 18 (upd ((B959 18)) cs960 0)) 19 (upd ((B959 19)) cs960 (nI hd749))) cs := (fun x9 hx9 => ⟨hsw1059 x9 hx9, hsw1094 x9 hx9, hsw1061 x9 hx9, hsw1062 x9 hx9⟩)
      have hz1114 : BdE K K958 := hbe1014
      have hz1115 : BeF K K958 := hbf1025
      have hz1116 : BeL K K958 lp9 := hbl1027
      have hz1117 : Bth B (updA (updA (updA (updA B959 16 (upd ((B959 16)) cs960 6)) 17 (aim ((aim ((upd ((aim ((B959 17)) xc975 cs960)) cs960 (nI cs744))) ex833 (cs960 + 1))) xb974 (cs960 + 1))) 18 (upd ((B959 18)) cs960 0)) 19 (upd ((B959 19)) cs960 (nI hd749))) := (show Thx (upd (upd (upd (upd (upd (upd (upd (upd F 2 (nI sz)) 5 (nI cs)) 6 (nI rg)) 7 (nI hd)) 8 (nI dp)) 12 (nI vr)) 13 as9) 16 ls9) (upd (upd (upd (upd (upd (upd (upd (upd (upd (upd (upd (upd (upd (upd (upd F 2 (nI sz)) 5 (nI cs)) 6 (nI rg)) 7 (nI hd)) 8 (nI dp)) 12 (nI vr)) 13 as9) 16 ls9) 5 (nI (cs960 + 1))) 6 (nI rg969)) 8 (nI dp966)) 13 (wf829 &&& bsv)) 14 wt962) 15 wf963) 16 ls971) B (updA (updA (updA (updA B959 16 (upd ((B959 16)) cs960 6)) 17 (aim ((aim ((upd ((aim ((B959 17)) xc975 cs960)) cs960 (nI cs744))) ex833 (cs960 + 1))) xb974 (cs960 + 1))) 18 (upd ((B959 18)) cs960 0)) 19 (upd ((B959 19)) cs960 (nI hd749))) from (Thx.b (Thx.b8 (Thx.b (Thx.b (Thx.f (Thx.f (Thx.f (Thx.f (Thx.f (Thx.f (Thx.f (Bth.thx hbb1015) (by omega)) (by omega)) (by omega)) (by omega)) (by omega)) (by omega)) (by omega)) (by omega) (by decide)) (by omega) (by decide)) hng1070) (by omega) (by decide))).2
      have hz1118 : BtR B (updA (updA (updA (updA B959 16 (upd ((B959 16)) cs960 6)) 17 (aim ((aim ((upd ((aim ((B959 17)) xc975 cs960)) cs960 (nI cs744))) ex833 (cs960 + 1))) xb974 (cs960 + 1))) 18 (upd ((B959 18)) cs960 0)) 19 (upd ((B959 19)) cs960 (nI hd749))) := (BtR.up (BtR.up (BtR.up (BtR.up hbr1026 (by omega)) (by omega)) (by omega)) (by omega))
      have hz1119 : cs ≤ (cs960 + 1) ∧ (cs960 + 1) + 1 ≤ cs + 2 * tlE g q := (by omega)
      have hz1120 : dp ≤ dp966 ∧ dp966 ≤ 71 := (by omega)
      have hz1121 : AsO (wf829 &&& bsv) := hao1088
      have hz1122 : VrS B (updA (updA (updA (updA B959 16 (upd ((B959 16)) cs960 6)) 17 (aim ((aim ((upd ((aim ((B959 17)) xc975 cs960)) cs960 (nI cs744))) ex833 (cs960 + 1))) xb974 (cs960 + 1))) 18 (upd ((B959 18)) cs960 0)) 19 (upd ((B959 19)) cs960 (nI hd749))) vr := hvs1028
      have hz1123 : gr ≤ gr970 ∧ rg969 ≤ 625 ∧ rg969 ≤ gr970 ∧ (rg969 = 625 ∨ rg969 = gr970) := (by omega)
      have hz1124 : EnV ((updA (updA (updA (updA B959 16 (upd ((B959 16)) cs960 6)) 17 (aim ((aim ((upd ((aim ((B959 17)) xc975 cs960)) cs960 (nI cs744))) ex833 (cs960 + 1))) xb974 (cs960 + 1))) 18 (upd ((B959 18)) cs960 0)) 19 (upd ((B959 19)) cs960 (nI hd749))) 26) ((updA (updA (updA (updA B959 16 (upd ((B959 16)) cs960 6)) 17 (aim ((aim ((upd ((aim ((B959 17)) xc975 cs960)) cs960 (nI cs744))) ex833 (cs960 + 1))) xb974 (cs960 + 1))) 18 (upd ((B959 18)) cs960 0)) 19 (upd ((B959 19)) cs960 (nI hd749))) 27) nd vr hd c0 sl := hen1112
      have hz1125 : StW pb.1 pb.2.1 pb.2.2.1 pb.2.2.2 Ag Ag1108 Q9 Q972 pd (pdm (pdm (pdm pd973 xc975) ex833) xb974) m9 dp966 lw cs (cs960 + 1) as9 (wf829 &&& bsv) hd hd sl sl gr gr970 ((updA (updA (updA (updA B959 16 (upd ((B959 16)) cs960 6)) 17 (aim ((aim ((upd ((aim ((B959 17)) xc975 cs960)) cs960 (nI cs744))) ex833 (cs960 + 1))) xb974 (cs960 + 1))) 18 (upd ((B959 18)) cs960 0)) 19 (upd ((B959 19)) cs960 (nI hd749))) 16) ((updA (updA (updA (updA B959 16 (upd ((B959 16)) cs960 6)) 17 (aim ((aim ((upd ((aim ((B959 17)) xc975 cs960)) cs960 (nI cs744))) ex833 (cs960 + 1))) xb974 (cs960 + 1))) 18 (upd ((B959 18)) cs960 0)) 19 (upd ((B959 19)) cs960 (nI hd749))) 17) ((updA (updA (updA (updA B959 16 (upd ((B959 16)) cs960 6)) 17 (aim ((aim ((upd ((aim ((B959 17)) xc975 cs960)) cs960 (nI cs744))) ex833 (cs960 + 1))) xb974 (cs960 + 1))) 18 (upd ((B959 18)) cs960 0)) 19 (upd ((B959 19)) cs960 (nI hd749))) 18) ((updA (updA (updA (updA B959 16 (upd ((B959 16)) cs960 6)) 17 (aim ((aim ((upd ((aim ((B959 17)) xc975 cs960)) cs960 (nI cs744))) ex833 (cs960 + 1))) xb974 (cs960 + 1))) 18 (upd ((B959 18)) cs960 0)) 19 (upd ((B959 19)) cs960 (nI hd749))) 19) [] := hst1109
      have hz1126 : LpS K958 ((updA (updA (updA (updA B959 16 (upd ((B959 16)) cs960 6)) 17 (aim ((aim ((upd ((aim ((B959 17)) xc975 cs960)) cs960 (nI cs744))) ex833 (cs960 + 1))) xb974 (cs960 + 1))) 18 (upd ((B959 18)) cs960 0)) 19 (upd ((B959 19)) cs960 (nI hd749))) 16) ((updA (updA (updA (updA B959 16 (upd ((B959 16)) cs960 6)) 17 (aim ((aim ((upd ((aim ((B959 17)) xc975 cs960)) cs960 (nI cs744))) ex833 (cs960 + 1))) xb974 (cs960 + 1))) 18 (upd ((B959 18)) cs960 0)) 19 (upd ((B959 19)) cs960 (nI hd749))) 17) Ag1108 (pdm (pdm (pdm pd973 xc975) ex833) xb974) lp9 lw (cs960 + 1) hd sl hdL slL xb xc := hlp1111
      have hz1127 : PdS pd (pdm (pdm (pdm pd973 xc975) ex833) xb974) xb xb xc xc [] cs (cs960 + 1) := hpdL
      have hz1128 : RgQx (updA (updA (updA (updA B959 16 (upd ((B959 16)) cs960 6)) 17 (aim ((aim ((upd ((aim ((B959 17)) xc975 cs960)) cs960 (nI cs744))) ex833 (cs960 + 1))) xb974 (cs960 + 1))) 18 (upd ((B959 18)) cs960 0)) 19 (upd ((B959 19)) cs960 (nI hd749))) Q972 gr970 nd := h994
      have hz1129 : LpR K958 lp9 rL := hlr1037
      have hO : OKP G h0 a (upd (upd (upd (upd (upd (upd (upd (upd (upd (upd F 2 (nI sz)) 5 (nI (cs960 + 1))) 6 (nI rg969)) 7 (nI hd)) 8 (nI dp966)) 12 (nI vr)) 13 (wf829 &&& bsv)) 14 wt962) 15 wf963) 16 ls971) (updR (updR (updR R 2 (.ref pq)) 3 (.ref mq)) 4 (va_rf lp9)) Z (updA (updA (updA (updA B959 16 (upd ((B959 16)) cs960 6)) 17 (aim ((aim ((upd ((aim ((B959 17)) xc975 cs960)) cs960 (nI cs744))) ex833 (cs960 + 1))) xb974 (cs960 + 1))) 18 (upd ((B959 18)) cs960 0)) 19 (upd ((B959 19)) cs960 (nI hd749))) J K958 w := hO.to rfl
      refine W.widen (k := ((rE (g 2 q) - rS (g 2 q)) + 1)) (n := (6 * (rE (g 2 q) - rS (g 2 q)) + 6)) (by omega) (by omega) ?_
      have hzz1 : H.size ≤ s.heap.size + ((rE (g 2 q) - rS (g 2 q))) := (by have z : (1 + (rE (g 2 q4) - rS (g 2 q4))) ≤ (rE (g 2 q) - rS (g 2 q)) := (by omega); omega)
      have hzz2 : hSl H ≤ hSl s.heap + ((6 * (rE (g 2 q) - rS (g 2 q)))) := (by have z : (6 + (6 * (rE (g 2 q4) - rS (g 2 q4)))) ≤ (6 * (rE (g 2 q) - rS (g 2 q))) := (by omega); omega)
      exact W.vret hx hb hr (fun t99 ht99 hW99 => ⟨⟨_, (w, (K958, (updA (updA (updA (updA B959 16 (upd ((B959 16)) cs960 6)) 17 (aim ((aim ((upd ((aim ((B959 17)) xc975 cs960)) cs960 (nI cs744))) ex833 (cs960 + 1))) xb974 (cs960 + 1))) 18 (upd ((B959 18)) cs960 0)) 19 (upd ((B959 19)) cs960 (nI hd749))), (cs960 + 1), (wf829 &&& bsv), wt962, wf963, dp966, Ag1108, rg969, gr970, ls971, Q972, (pdm (pdm (pdm pd973 xc975) ex833) xb974), xb, xc)), rfl, ⟨rfl, hz1113, hz1114, hz1115, hz1116, hz1117, hz1118, hz1119, hz1120, hz1121, hz1122, hz1123, hz1124, hz1125, hz1126, hz1127, hz1128, hz1129, hO⟩, by rw [ht99]; exact hP, hD, by rw [ht99]; exact hzz1, by rw [ht99]; exact hzz2⟩, hS.F ht99⟩) hS.2.2 dX0_loopStatement_212
    · skip
      rw [hos2] at hsd3
      have hsd4 : tlE g z1 + tO g ob + tlE g z3 + tlE g q4 + 3 ≤ tlE g q := hsd3
      have hz2 := hnd.2.1 2 z3 (by decide) hos2
      have hz2T := hz2.1
      have hz2v : 1 ≤ g 0 z3 ∧ g 0 z3 + 1 ≤ n := ⟨hz2.2.1, by have z := hz2.2.2.1; omega⟩
      have hsdC := hsdc z3 hos2
      refine c_get (v := .int (nI vr)) (C := RX0) (Tc := TX0) (N := 13) (ci := 0) hx hb hq pin_wsX00 hown hE hP hO 24 (sg_24 G h0 a _ _ _ _ _) rfl 5 (by decide) (hq _ pw_42) (fun _ h9 => h9) rfl dX0_loopStatement_1 ?_
      refine lv_istore_n (lv' := [(2, .int (nI vr)), (0, .ref (a 4)), (1, .ref q)]) hx hb dX0_loopStatement_4 rfl hl (by decide) rfl (fun ls hl => ?_)
      refine lv_aload_n hx hb dX0_loopStatement_5 rfl (lv_at hl 1 rfl) ?_
      refine c_get (v := .ref (a 2)) (C := RX0) (Tc := TX0) (N := 13) (ci := 0) hx hb hq pin_wsX00 hown hE hP hO 24 (sg_24 G h0 a _ _ _ _ _) rfl 1 (by decide) (hq _ pw_5) (fun _ h9 => h9) rfl dX0_loopStatement_6 ?_
      refine c_get (v := .int (nI hd)) (C := RX1) (Tc := TX1) (N := 13) (ci := 1) hx hb hq pin_wsX10 hown hE hP hO 13 (sg_13 G h0 a _ _ _ _ _) rfl 11 (by decide) (hq _ pw_54) (fun _ h9 => h9) rfl dX0_loopStatement_9 ?_
      refine lv_istore_n (lv' := [(3, .int (nI hd)), (2, .int (nI vr)), (0, .ref (a 4)), (1, .ref q)]) hx hb dX0_loopStatement_12 rfl hl (by decide) rfl (fun ls hl => ?_)
      refine lv_aload_n hx hb dX0_loopStatement_13 rfl (lv_at hl 3 rfl) ?_
      refine p_get (v := .ref z1) (C := RX7) (Tc := TX7) (N := 11) (ci := 13) hx hb hq pin_wsX70 hown hE hP hO (by rw [hqT]; decide) (rep_1 hqT) rfl 6 (by decide) (hq _ pw_180) (fun _ h9 => h9) (congrArg (fun z => some (va_rf z)) hos0) dX0_loopStatement_14 ?_
      refine lv_ifnull hx hb dX0_loopStatement_17 ?_
      refine lv_aload_n hx hb dX0_loopStatement_20 rfl (lv_at hl 2 rfl) ?_
      refine lv_aload_n hx hb dX0_loopStatement_21 rfl (lv_at hl 3 rfl) ?_
      refine p_get (v := .ref z1) (C := RX7) (Tc := TX7) (N := 11) (ci := 13) hx hb hq pin_wsX70 hown hE hP hO (by rw [hqT]; decide) (rep_1 hqT) rfl 6 (by decide) (hq _ pw_180) (fun _ h9 => h9) (congrArg (fun z => some (va_rf z)) hos0) dX0_loopStatement_22 ?_
      refine lv_iconst (v := 0) hx hb dX0_loopStatement_25 (by decide) ?_
      have htl1130 : tlE g z1 = rE (g 2 z1) - rS (g 2 z1) := rfl
      have hO : OKP G h0 a (upd (upd (upd (upd (upd (upd (upd (upd (upd (upd (upd (upd (upd (upd (upd (upd F 2 (nI sz)) 5 (nI cs)) 6 (nI rg)) 7 (nI hd)) 8 (nI dp)) 12 (nI vr)) 13 as9) 16 ls9) 2 (nI sz)) 5 (nI cs)) 6 (nI rg)) 7 (nI hd)) 8 (nI dp)) 12 (nI vr)) 13 as9) 16 ls9) (updR (updR (updR (updR (updR (updR R 2 (.ref pq)) 3 (.ref mq)) 4 (va_rf lp9)) 2 (.ref pq)) 3 (.ref mq)) 4 (va_rf lp9)) Z B J K w := hO.to rfl
      obtain ⟨_, qr1134, hqr1135⟩ := hO.2.1 24 _ (sg_24 G h0 a _ _ _ _ _)
      refine pn_V0 (G := G) (As := [.ref z1, .int 0]) (rest := []) hx hb hml hown hq hE hX pX0_al hP hD hS hA hl.1 (Y_stS l G h0 a (upd (upd (upd (upd (upd (upd (upd (upd F 2 (nI sz)) 5 (nI cs)) 6 (nI rg)) 7 (nI hd)) 8 (nI dp)) 12 (nI vr)) 13 as9) 16 ls9) (updR (updR (updR R 2 (.ref pq)) 3 (.ref mq)) 4 (va_rf lp9)) Z B J K w pq dr ml nd nm cp it s9 z1 mq cs vr sz (n - 1) hd dp rg ls9 lp9 g rk pb Ag Q9 pd sl m9 lw c0 rt gr as9 (by omega) (BdE.wp BdE.rfl hwp) (BdE.pt BdE.rfl hwp hps) (BdE.rko BdE.rfl hrk) (by omega) (by omega) hng hmq hz0T ⟨hz0v.1, (by have z9 := hz0v; omega)⟩ hrt hrv (by omega) (by omega) (by omega) (LpO.be BdE.rfl hlo) (EkA.be BdE.rfl (BtR.rfl 7 (by decide)) (BtR.rfl 11 (by decide)) hek) (OwC.be BdE.rfl hmq hdr0 hcO) (NaB.be BdE.rfl BeF.rfl hwp hps.2.1 hdr0 (BtR.rfl 11 (by decide)) hna) hen hao hst0.1 (by omega) (SkA.be BdE.rfl (BtR.rfl 11 (by decide)) hsk) (hsdA.2.elim Or.inl (fun e9 => Or.inr (Or.inl e9))) hO hl0) (gV pw_300 pw_301 pw_302 pw_63 pw_323) hV_X0_statement qr1134 0 hqr1135 rfl rfl rfl (Nat.le_of_ble_eq_true rfl) dX0_loopStatement_26 ⟨(by show 0 + 1 ≤ ((rE (g 2 q) - rS (g 2 q)) + 1); omega), (by show 0 + 6 ≤ (6 * (rE (g 2 q) - rS (g 2 q)) + 6); omega)⟩ ⟨(by show (5 * (n - 1) + 50) + 1 ≤ (5 * n + 46); omega), (by show 8 + (3 + 11) + (200 * (n - 1) + 1200) ≤ (200 * n + 1120); omega)⟩ (fun v1133 u1131 H locs hw1132 hP hD hS => ?_) (fun ux ce9 q9 H9 locs9 hux hP9 hD9 hS9 hce hcv hcl => pb_out ux (ThQ.up (Thx.same (Thx.same (Thx.same (Thx.same (Thx.same (Thx.same (Thx.same (Thx.same Thx.rfl rfl) rfl) rfl) rfl) rfl) rfl) rfl) rfl) (show RhX (updR (updR (updR R 2 (.ref pq)) 3 (.ref mq)) 4 (va_rf lp9)) (updR (updR (updR (updR (updR (updR R 2 (.ref pq)) 3 (.ref mq)) 4 (va_rf lp9)) 2 (.ref pq)) 3 (.ref mq)) 4 (va_rf lp9)) from fun k9 hk9 => by unfold updR; simp only [show ¬ k9 = 1 by omega, show ¬ k9 = 2 by omega, show ¬ k9 = 3 by omega, show ¬ k9 = 4 by omega, if_false]) hux) hnt hlocks hce hcv hcl hP9 hD9 hS9 (by show 0 + 1 ≤ ((rE (g 2 q) - rS (g 2 q)) + 1); omega) (by show 0 + 6 ≤ (6 * (rE (g 2 q) - rS (g 2 q)) + 6); omega))
      obtain ⟨w, K1136, B1137, cs1138, as1139, wt1140, wf1141, vr1142, hd1143, dp1144, Ag1145, sl1146⟩ := u1131
      obtain ⟨hw1132, h1147, h1148, h1149, h1150, h1151, h1152, h1153, h1154, h1155, h1156, h1157, h1158, h1159, h1160, hO⟩ := hw1132
      have h1147 : SmW B B1137 cs := h1147
      have h1148 : BdE K K1136 := h1148
      have h1149 : BeF K K1136 := h1149
      have h1150 : BeL K K1136 none := h1150
      have h1151 : Bth B B1137 := h1151
      have h1152 : BsR B B1137 := h1152
      have h1153 : cs ≤ cs1138 ∧ cs1138 + 1 ≤ cs + 2 * tlE g z1 := h1153
      have h1154 : dp ≤ dp1144 ∧ dp1144 ≤ 71 := h1154
      have h1155 : vr ≤ vr1142 ∧ vr1142 ≤ 30 ∧ hd1143 + vr = hd + vr1142 := h1155
      have h1156 : AsO as1139 := h1156
      have h1157 : VrS B B1137 vr := h1157
      have h1158 : cs < cs1138 := h1158
      have h1159 : EnV (B1137 26) (B1137 27) nd vr1142 hd1143 c0 sl1146 := h1159
      have h1160 : StW pb.1 pb.2.1 pb.2.2.1 pb.2.2.2 Ag Ag1145 Q9 Q9 pd pd m9 dp1144 lw cs cs1138 as9 as1139 hd hd1143 sl sl1146 gr gr (B1137 16) (B1137 17) (B1137 18) (B1137 19) [] := h1160
      obtain rfl : v1133 = none := hw1132
      have hf1161 : K1136.1 pq = 7 := (BdE.T h1148 hp1 (by decide))
      have hf1162 : K1136.2.2.1 18 pq = some (a 1) := (BdE.C h1148 (by rw [hp1]; decide) 18).trans hp2
      have hf1163 : K1136.2.2.1 14 pq = some dr := (BdE.C h1148 (by rw [hp1]; decide) 14).trans hp3
      have hf1164 : K1136.1 dr = 8 := (BdE.T h1148 hp4 (by decide))
      have hf1165 : K1136.2.2.1 15 pq = some ml := (BdE.C h1148 (by rw [hp1]; decide) 15).trans hp5
      have hf1166 : K1136.1 ml = 5 := (BdE.T h1148 hp6 (by decide))
      have hf1167 : K1136.2.1 24 pq = (nI nd) := (BdE.I h1148 (by rw [hp1]; decide) (by decide) (by decide)).trans hp8
      have hf1168 : K1136.1 q = 1 := (BdE.T h1148 hqT (by decide))
      have hf1169 : K1136.1 mq = 3 := (BdE.T h1148 hmq (by decide))
      have hf1170 : K1136.2.1 10 mq = (nI rt) := (BdE.I h1148 (by rw [hmq]; decide) (by decide) (by decide)).trans hrt
      have hf1171 : K1136.2.2.1 3 q = some q4 := (BdE.C h1148 (by rw [hqT]; decide) 3).trans hc3
      have hf1172 : K1136.1 q4 = 1 := (BdE.T h1148 ht3 (by decide))
      have hf1173 : K1136.2.2.1 1 q = ob := (BdE.C h1148 (by rw [hqT]; decide) 1).trans hob
      have hf1174 : K1136.2.2.1 0 q = some z1 := (BdE.C h1148 (by rw [hqT]; decide) 0).trans hos0
      have hf1175 : K1136.1 z1 = 1 := (BdE.T h1148 hz0T (by decide))
      have hf1176 : K1136.2.2.1 2 q = some z3 := (BdE.C h1148 (by rw [hqT]; decide) 2).trans hos2
      have hf1177 : K1136.1 z3 = 1 := (BdE.T h1148 hz2T (by decide))
      have hO : OKP G h0 a (upd (upd (upd (upd (upd (upd (upd (upd (upd (upd F 2 (nI sz)) 5 (nI cs1138)) 6 (nI rg)) 7 (nI hd1143)) 8 (nI dp1144)) 12 (nI vr1142)) 13 as1139) 14 wt1140) 15 wf1141) 16 ls9) (updR (updR (updR R 2 (.ref pq)) 3 (.ref mq)) 4 (va_rf lp9)) Z B1137 J K1136 w := hO.to rfl
      refine W.widen (k := 0) (n := 0) (by show 0 + 0 ≤ 0; omega) (by show 0 + 0 ≤ 0; omega) ?_
      refine W.eq (g2 := F0 m 29 ls []) rfl ?_
      have hbe1178 := BdE.trans BdE.rfl h1148
      have hbb1179 : Bth B B1137 := Bth.trans (show Thx (upd (upd (upd (upd (upd (upd (upd (upd F 2 (nI sz)) 5 (nI cs)) 6 (nI rg)) 7 (nI hd)) 8 (nI dp)) 12 (nI vr)) 13 as9) 16 ls9) (upd (upd (upd (upd (upd (upd (upd (upd F 2 (nI sz)) 5 (nI cs)) 6 (nI rg)) 7 (nI hd)) 8 (nI dp)) 12 (nI vr)) 13 as9) 16 ls9) B B from Thx.rfl).2 h1151
      have hng1180 : Nng (B1137 18) := h1151.2 hng
      have hsw1181 : ∀ x9 : Nat, x9 < cs → (B1137 16) x9 = B 16 x9 := fun x9 hx9 => ((h1147 x9 (by omega)).1).trans ((fun _ _ => rfl) x9 hx9)
      have hsw1182 : ∀ x9 : Nat, x9 < cs → (B1137 17) x9 = B 17 x9 := fun x9 hx9 => ((h1147 x9 (by omega)).2.1).trans ((fun _ _ => rfl) x9 hx9)
      have hsw1183 : ∀ x9 : Nat, x9 < cs → (B1137 18) x9 = B 18 x9 := fun x9 hx9 => ((h1147 x9 (by omega)).2.2.1).trans ((fun _ _ => rfl) x9 hx9)
      have hsw1184 : ∀ x9 : Nat, x9 < cs → (B1137 19) x9 = B 19 x9 := fun x9 hx9 => ((h1147 x9 (by omega)).2.2.2).trans ((fun _ _ => rfl) x9 hx9)
      have hbf1185 := BeF.trans BeF.rfl h1149 BdE.rfl
      have hbl1187 : BeL K K1136 lp9 := BeL.trans BeL.rfl (BeL.any h1150) BdE.rfl
      have hbr1186 : BtR B B1137 := BtR.trans BtR.rfl (BsR.bt h1152)
      have hvs1188 : VrS B B1137 vr := VrS.trans VrS.rfl h1157 (by omega)
      have hst1189 : StW pb.1 pb.2.1 pb.2.2.1 pb.2.2.2 Ag Ag1145 Q9 Q9 pd pd m9 dp1144 lw cs cs1138 as9 as1139 hd hd1143 sl sl1146 gr gr (B1137 16) (B1137 17) (B1137 18) (B1137 19) ([] : List Nat) := StW.seq hst0 (by omega) (fun x9 hx9 => ⟨(h1147 x9 hx9).1, (h1147 x9 hx9).2.1⟩) h1160
      have hsn1190 := hst1189.1.2.2.2.1
      have hrq1191 : RgQx B1137 Q9 gr nd := RgQx.ber hrq (BsR.rg h1152 20 (by decide) (by decide)) (BsR.rg h1152 21 (by decide) (by decide)) (BsR.rg h1152 22 (by decide) (by decide)) (BsR.rg h1152 23 (by decide) (by decide)) (BsR.rg h1152 24 (by decide) (by decide))
      have hlp1192 : LpS K1136 (B1137 16) (B1137 17) Ag1145 pd lp9 lw cs1138 hd1143 sl1146 hdL slL xb xc := LpS.same hlp (fun lq9 e9 f9 _ _ => h1150 lq9 (LpO.be BdE.rfl hlo lq9 e9) (fun z => by cases z) f9) (fun z9 hz9 => ⟨(h1147 z9 hz9).1, (h1147 z9 hz9).2.1, h1160.2.2.1 z9 (by omega)⟩) (fun _ h9 => h9) (fun z9 h9 => Nat.lt_of_lt_of_le (hlp.1 z9 h9) (by omega)) (by omega) h1160.2.2.2.2.2.2.1
      have hpd1193 : PdS pd pd xb xb xc xc ([] : List Nat) cs cs1138 := PdS.wk (PdS.rfl (cs1 := cs)) (by omega)
      have hlr1194 : LpR K1136 lp9 rL := LpR.same hlr (fun lq9 e9 f9 _ _ => h1150 lq9 (LpO.be BdE.rfl hlo lq9 e9) (fun z => by cases z) f9)
      have hwfF : WfA (1, hd1143, sl1146, ([] : List Nat)) := hst1189.1.2.2.1
      have hsnF := hst1189.1.2.2.2.1
      have hstF : StW pb.1 pb.2.1 pb.2.2.1 pb.2.2.2 Ag1145 Ag1145 Q9 Q9 pd pd m9 dp1144 lw cs1138 cs1138 as1139 as1139 hd1143 hd1143 sl1146 sl1146 gr gr (B1137 16) (B1137 17) (B1137 18) (B1137 19) ([] : List Nat) := StW.nil hst1189.1
      have hbkF : BeL K1136 K1136 none := BeL.rfl
      have hbjF : BdE K1136 K1136 := BdE.rfl
      refine lv_aload_n hx hb dX0_loopStatement_29 rfl (lv_at hl 2 rfl) ?_
      refine c_get (v := .ref (a 2)) (C := RX0) (Tc := TX0) (N := 13) (ci := 0) hx hb hq pin_wsX00 hown hE hP hO 24 (sg_24 G h0 a _ _ _ _ _) rfl 1 (by decide) (hq _ pw_5) (fun _ h9 => h9) rfl dX0_loopStatement_30 ?_
      refine c_get (v := .int (nI cs1138)) (C := RX1) (Tc := TX1) (N := 13) (ci := 1) hx hb hq pin_wsX10 hown hE hP hO 13 (sg_13 G h0 a _ _ _ _ _) rfl 4 (by decide) (hq _ pw_75) (fun _ h9 => h9) rfl dX0_loopStatement_33 ?_
      refine lv_istore (lv' := [(4, .int (nI cs1138)), (3, .int (nI hd)), (2, .int (nI vr)), (0, .ref (a 4)), (1, .ref q)]) hx hb dX0_loopStatement_36 hl (by decide) rfl (fun ls hl => ?_)
      refine lv_aload_n hx hb dX0_loopStatement_38 rfl (lv_at hl 3 rfl) ?_
      refine c_get (v := .ref (a 2)) (C := RX0) (Tc := TX0) (N := 13) (ci := 0) hx hb hq pin_wsX00 hown hE hP hO 24 (sg_24 G h0 a _ _ _ _ _) rfl 1 (by decide) (hq _ pw_5) (fun _ h9 => h9) rfl dX0_loopStatement_39 ?_
      refine lv_iconst (v := 0) hx hb dX0_loopStatement_42 (by decide) ?_
      refine lv_iconst (v := 0) hx hb dX0_loopStatement_43 (by decide) ?_
      refine lv_iconst (v := 0) hx hb dX0_loopStatement_44 (by decide) ?_
      have hO : OKW G h0 a (upd (upd (upd (upd (upd (upd (upd (upd (upd (upd (upd (upd F 2 (nI sz)) 5 (nI cs1138)) 6 (nI rg)) 7 (nI hd1143)) 8 (nI dp1144)) 12 (nI vr1142)) 13 as1139) 14 wt1140) 15 wf1141) 16 ls9) 5 (nI cs1138)) 7 (nI hd1143)) (updR (updR (updR R 2 (.ref pq)) 3 (.ref mq)) 4 (va_rf lp9)) Z B1137 J K1136.1 (fun q99 x99 => x99 = rep G a K1136 q99) w := hO.to rfl
      obtain ⟨_, qr1198, hqr1199⟩ := hO.2.1 13 _ (sg_13 G h0 a _ _ _ _ _)
      refine pc_V0 (G := G) (As := [.int 0, .int 0, .int 0]) (rest := []) hx hb hml hown hq hE hX pX0_al hP hD hS hA hl.1 (Y_emit l G h0 a (upd (upd (upd (upd (upd (upd (upd (upd (upd (upd F 2 (nI sz)) 5 (nI cs1138)) 6 (nI rg)) 7 (nI hd1143)) 8 (nI dp1144)) 12 (nI vr1142)) 13 as1139) 14 wt1140) 15 wf1141) 16 ls9) (updR (updR (updR R 2 (.ref pq)) 3 (.ref mq)) 4 (va_rf lp9)) Z B1137 J K1136.1 (fun q99 x99 => x99 = rep G a K1136 q99) w 0 0 0 cs1138 hd1143 (by omega) hO) (gV pw_129 pw_130 pw_131 pw_70 pw_115) hV_X1_emit qr1198 1 hqr1199 rfl rfl rfl (Nat.le_of_ble_eq_true rfl) dX0_loopStatement_45 ⟨(by show 0 + 0 ≤ ((rE (g 2 q) - rS (g 2 q)) + 1); omega), (by show 0 + 0 ≤ (6 * (rE (g 2 q) - rS (g 2 q)) + 6); omega)⟩ ⟨(by show 2 + 1 ≤ (5 * n + 46); omega), (by show 8 + (4 + 11) + 60 ≤ (200 * n + 1120); omega)⟩ (fun v1197 u1195 H locs hw1196 hP hD hS => ?_)
      obtain ⟨w, _⟩ := u1195
      obtain ⟨hw1196, hO⟩ := hw1196
      obtain rfl : v1197 = none := hw1196
      have hO : OKP G h0 a (upd (upd (upd (upd (upd (upd (upd (upd (upd (upd F 2 (nI sz)) 5 (nI (cs1138 + 1))) 6 (nI rg)) 7 (nI hd1143)) 8 (nI dp1144)) 12 (nI vr1142)) 13 as1139) 14 wt1140) 15 wf1141) 16 ls9) (updR (updR (updR R 2 (.ref pq)) 3 (.ref mq)) 4 (va_rf lp9)) Z (updA (updA (updA (updA B1137 16 (upd ((B1137 16)) cs1138 0)) 17 (upd ((B1137 17)) cs1138 0)) 18 (upd ((B1137 18)) cs1138 0)) 19 (upd ((B1137 19)) cs1138 (nI hd1143))) J K1136 w := hO.to rfl
      refine W.widen (k := 0) (n := 0) (Nat.le_of_ble_eq_true rfl) (Nat.le_of_ble_eq_true rfl) ?_
      refine W.eq (g2 := F0 m 48 ls []) rfl ?_
      have hsw1200 : ∀ x9 : Nat, x9 < cs → (upd ((B1137 16)) cs1138 0) x9 = B 16 x9 := fun x9 hx9 => (if_neg (by omega)).trans (hsw1181 x9 hx9)
      have hsw1201 : ∀ x9 : Nat, x9 < cs → (upd ((B1137 17)) cs1138 0) x9 = B 17 x9 := fun x9 hx9 => (if_neg (by omega)).trans (hsw1182 x9 hx9)
      have hsw1202 : ∀ x9 : Nat, x9 < cs → (upd ((B1137 18)) cs1138 0) x9 = B 18 x9 := fun x9 hx9 => (if_neg (by omega)).trans (hsw1183 x9 hx9)
      have hsw1203 : ∀ x9 : Nat, x9 < cs → (upd ((B1137 19)) cs1138 (nI hd1143)) x9 = B 19 x9 := fun x9 hx9 => (if_neg (by omega)).trans (hsw1184 x9 hx9)
      have hsx1204 : ∀ x9 : Nat, x9 < cs1138 → (upd ((B1137 16)) cs1138 0) x9 = (B1137 16) x9 := fun x9 hx9 => (if_neg (by omega)).trans ((fun _ _ => rfl) x9 hx9)
      have hsx1205 : ∀ x9 : Nat, x9 < cs1138 → (upd ((B1137 17)) cs1138 0) x9 = (B1137 17) x9 := fun x9 hx9 => (if_neg (by omega)).trans ((fun _ _ => rfl) x9 hx9)
      have hsx1206 : ∀ x9 : Nat, x9 < cs1138 → (upd ((B1137 18)) cs1138 0) x9 = (B1137 18) x9 := fun x9 hx9 => (if_neg (by omega)).trans ((fun _ _ => rfl) x9 hx9)
      have hsx1207 : ∀ x9 : Nat, x9 < cs1138 → (upd ((B1137 19)) cs1138 (nI hd1143)) x9 = (B1137 19) x9 := fun x9 hx9 => (if_neg (by omega)).trans ((fun _ _ => rfl) x9 hx9)
      obtain ⟨Ag1208, hst1209, hag1210⟩ : ∃ A5 : Nat → AS, StW pb.1 pb.2.1 pb.2.2.1 pb.2.2.2 Ag1145 A5 Q9 Q9 pd pd m9 dp1144 lw cs1138 (cs1138 + 1) as1139 as1139 hd1143 hd1143 sl1146 sl1146 gr gr (upd ((B1137 16)) cs1138 0) (upd ((B1137 17)) cs1138 0) (upd ((B1137 18)) cs1138 0) (upd ((B1137 19)) cs1138 (nI hd1143)) ([] : List Nat) ∧ ∀ x9 : Nat, x9 ≤ cs1138 → A5 x9 = Ag1145 x9 := ⟨(upS Ag1145 (cs1138 + 1) (rcA as1139, hd1143, sl1146, ([] : List Nat))), StW.fuel hstF, fun x9 hx9 => upS_ne (by omega)⟩
      have hng1211 : Nng (upd ((B1137 18)) cs1138 0) := Nng.set hng1180 (k := 0) (by omega)
      have hj1212 : (upd ((B1137 16)) cs1138 0) cs1138 = (nI 0) := if_pos rfl
      have hj1213 : Ag1208 cs1138 = (rcA as1139, hd1143, sl1146, ([] : List Nat)) := (hag1210 cs1138 (Nat.le_refl _)).trans hstF.1.1.2
      refine lv_aload_n hx hb dX0_loopStatement_48 rfl (lv_at hl 3 rfl) ?_
      refine lv_aload_n hx hb dX0_loopStatement_49 rfl (lv_at hl 4 rfl) ?_
      refine p_get (v := va_rf ob) (C := RX7) (Tc := TX7) (N := 11) (ci := 13) hx hb hq pin_wsX70 hown hE hP hO (by rw [hf1168]; decide) (rep_1 hf1168) rfl 7 (by decide) (hq _ pw_169) (fun _ h9 => h9) (congrArg (fun z => some (va_rf z)) hf1173) dX0_loopStatement_50 ?_
      have hO : OKP G h0 a (upd (upd (upd (upd (upd (upd (upd (upd (upd (upd (upd (upd (upd (upd (upd (upd (upd (upd (upd (upd (upd (upd (upd F 2 (nI sz)) 5 (nI cs)) 6 (nI rg)) 7 (nI hd)) 8 (nI dp)) 12 (nI vr)) 13 as9) 16 ls9) 5 (nI (cs1138 + 1))) 7 (nI hd1143)) 8 (nI dp1144)) 12 (nI vr1142)) 13 as1139) 14 wt1140) 15 wf1141) 2 (nI sz)) 5 (nI (cs1138 + 1))) 6 (nI rg)) 7 (nI hd1143)) 8 (nI dp1144)) 12 (nI vr1142)) 13 as1139) 16 ls9) (updR (updR (updR (updR (updR (updR R 2 (.ref pq)) 3 (.ref mq)) 4 (va_rf lp9)) 2 (.ref pq)) 3 (.ref mq)) 4 (va_rf lp9)) Z (updA (updA (updA (updA B1137 16 (upd ((B1137 16)) cs1138 0)) 17 (upd ((B1137 17)) cs1138 0)) 18 (upd ((B1137 18)) cs1138 0)) 19 (upd ((B1137 19)) cs1138 (nI hd1143))) J K1136 w := hO.to rfl
      obtain ⟨_, qr1217, hqr1218⟩ := hO.2.1 24 _ (sg_24 G h0 a _ _ _ _ _)
      refine pn_V0 (G := G) (As := [va_rf ob]) (rest := []) hx hb hml hown hq hE hX pX0_al hP hD hS hA hl.1 (Y_loopCondO l G h0 a (upd (upd (upd (upd (upd (upd (upd (upd (upd (upd (upd (upd (upd (upd (upd F 2 (nI sz)) 5 (nI cs)) 6 (nI rg)) 7 (nI hd)) 8 (nI dp)) 12 (nI vr)) 13 as9) 16 ls9) 5 (nI (cs1138 + 1))) 7 (nI hd1143)) 8 (nI dp1144)) 12 (nI vr1142)) 13 as1139) 14 wt1140) 15 wf1141) (updR (updR (updR R 2 (.ref pq)) 3 (.ref mq)) 4 (va_rf lp9)) Z (updA (updA (updA (updA B1137 16 (upd ((B1137 16)) cs1138 0)) 17 (upd ((B1137 17)) cs1138 0)) 18 (upd ((B1137 18)) cs1138 0)) 19 (upd ((B1137 19)) cs1138 (nI hd1143))) J K1136 w pq dr ml nd nm cp it s9 q mq (cs1138 + 1) vr1142 sz n ob (tO g ob) hd1143 dp1144 rg ls9 lp9 g rk pb Ag1208 Q9 pd sl1146 m9 lw c0 rt gr as1139 (by omega) (BdE.wp hbe1178 hwp) (BdE.pt hbe1178 hwp hps) (BdE.rko hbe1178 hrk) (by omega) (by omega) hng1211 hf1169 hf1168 hqL hf1170 hrv (by omega) (by omega) (LpO.be hbe1178 hlo) (EkA.be hbe1178 ((BtR.up (BtR.up (BtR.up (BtR.up hbr1186 (by omega)) (by omega)) (by omega)) (by omega)) 7 (by decide)) ((BtR.up (BtR.up (BtR.up (BtR.up hbr1186 (by omega)) (by omega)) (by omega)) (by omega)) 11 (by decide)) hek) (OwC.be hbe1178 hmq hdr0 hcO) (NaB.be hbe1178 hbf1185 hwp hps.2.1 hdr0 ((BtR.up (BtR.up (BtR.up (BtR.up hbr1186 (by omega)) (by omega)) (by omega)) (by omega)) 11 (by decide)) hna) h1159 h1156 hst1209.1 (KvO.of ((BdE.wp hbe1178 hwp).1 q hf1168 hqL.1) (by decide) hf1173 hqL.2) (fun x9 hx9 => ⟨hsdb x9 hx9, by rw [hx9]; exact Nat.le_refl _⟩) (by omega) hO hl0) (gV pw_318 pw_319 pw_320 pw_63 pw_271) hV_X0_loopCondition qr1217 0 hqr1218 rfl rfl rfl (Nat.le_of_ble_eq_true rfl) dX0_loopStatement_53 ⟨(by show 0 + 1 ≤ ((rE (g 2 q) - rS (g 2 q)) + 1); omega), (by show 0 + 6 ≤ (6 * (rE (g 2 q) - rS (g 2 q)) + 6); omega)⟩ ⟨(by show (5 * n + 35) + 1 ≤ (5 * n + 46); omega), (by show 8 + (2 + 11) + (200 * n + 640) ≤ (200 * n + 1120); omega)⟩ (fun v1216 u1214 H locs hw1215 hP hD hS => ?_) (fun ux ce9 q9 H9 locs9 hux hP9 hD9 hS9 hce hcv hcl => pb_out ux (ThQ.up (Thx.same (Thx.same (Thx.same (Thx.same (Thx.same (Thx.same (Thx.same (Thx.same (Thx.b (Thx.b8 (Thx.b (Thx.b (Thx.f (Thx.f (Thx.f (Thx.f (Thx.f (Thx.f (Thx.f (Bth.thx hbb1179) (by omega)) (by omega)) (by omega)) (by omega)) (by omega)) (by omega)) (by omega)) (by omega) (by decide)) (by omega) (by decide)) hng1211) (by omega) (by decide)) rfl) rfl) rfl) rfl) rfl) rfl) rfl) rfl) (show RhX (updR (updR (updR R 2 (.ref pq)) 3 (.ref mq)) 4 (va_rf lp9)) (updR (updR (updR (updR (updR (updR R 2 (.ref pq)) 3 (.ref mq)) 4 (va_rf lp9)) 2 (.ref pq)) 3 (.ref mq)) 4 (va_rf lp9)) from fun k9 hk9 => by unfold updR; simp only [show ¬ k9 = 1 by omega, show ¬ k9 = 2 by omega, show ¬ k9 = 3 by omega, show ¬ k9 = 4 by omega, if_false]) hux) hnt hlocks hce hcv hcl hP9 hD9 hS9 (by show 0 + 1 ≤ ((rE (g 2 q) - rS (g 2 q)) + 1); omega) (by show 0 + 6 ≤ (6 * (rE (g 2 q) - rS (g 2 q)) + 6); omega))
      obtain ⟨w, K1219, B1220, cs1221, as1222, wt1223, wf1224, x1225, Ag1226, pd1227, ex1228⟩ := u1214
      obtain ⟨hw1215, h1229, h1230, h1231, h1232, h1233, h1234, h1235, h1236, h1237, h1238, h1239, h1240, hO⟩ := hw1215
      have h1229 : SmW (updA (updA (updA (updA B1137 16 (upd ((B1137 16)) cs1138 0)) 17 (upd ((B1137 17)) cs1138 0)) 18 (upd ((B1137 18)) cs1138 0)) 19 (upd ((B1137 19)) cs1138 (nI hd1143))) B1220 (cs1138 + 1) := h1229
      have h1230 : BdE K1136 K1219 := h1230
      have h1231 : BeF K1136 K1219 := h1231
      have h1232 : BeL K1136 K1219 none := h1232
      have h1233 : Bth (updA (updA (updA (updA B1137 16 (upd ((B1137 16)) cs1138 0)) 17 (upd ((B1137 17)) cs1138 0)) 18 (upd ((B1137 18)) cs1138 0)) 19 (upd ((B1137 19)) cs1138 (nI hd1143))) B1220 := h1233
      have h1234 : BeR (updA (updA (updA (updA B1137 16 (upd ((B1137 16)) cs1138 0)) 17 (upd ((B1137 17)) cs1138 0)) 18 (upd ((B1137 18)) cs1138 0)) 19 (upd ((B1137 19)) cs1138 (nI hd1143))) B1220 := h1234
      have h1235 : (cs1138 + 1) ≤ cs1221 ∧ cs1221 ≤ (cs1138 + 1) + 2 * (tO g ob) + 1 := h1235
      have h1236 : AsO as1222 ∧ AsO wt1223 ∧ AsO wf1224 := h1236
      have h1237 : ¬ wf1224 = -1 → ¬ as1139 = -1 := h1237
      have h1238 : StW pb.1 pb.2.1 pb.2.2.1 pb.2.2.2 Ag1208 Ag1226 Q9 Q9 pd pd1227 m9 dp1144 lw (cs1138 + 1) cs1221 as1139 wt1223 hd1143 hd1143 sl1146 sl1146 gr gr (B1220 16) (B1220 17) (B1220 18) (B1220 19) [] := h1238
      have h1239 : ExJ (B1220 16) (B1220 17) Ag1226 x1225 ex1228 lw (cs1138 + 1) cs1221 hd1143 sl1146 wt1223 wf1224 := h1239
      have h1240 : ∀ z : Nat, pd1227 z ↔ pd z ∨ z ∈ ex1228 := h1240
      obtain rfl : v1216 = some (.int x1225) := hw1215
      have hf1241 : K1219.1 pq = 7 := (BdE.T h1230 hf1161 (by decide))
      have hf1242 : K1219.2.2.1 18 pq = some (a 1) := (BdE.C h1230 (by rw [hf1161]; decide) 18).trans hf1162
      have hf1243 : K1219.2.2.1 14 pq = some dr := (BdE.C h1230 (by rw [hf1161]; decide) 14).trans hf1163
      have hf1244 : K1219.1 dr = 8 := (BdE.T h1230 hf1164 (by decide))
      have hf1245 : K1219.2.2.1 15 pq = some ml := (BdE.C h1230 (by rw [hf1161]; decide) 15).trans hf1165
      have hf1246 : K1219.1 ml = 5 := (BdE.T h1230 hf1166 (by decide))
      have hf1247 : K1219.2.1 24 pq = (nI nd) := (BdE.I h1230 (by rw [hf1161]; decide) (by decide) (by decide)).trans hf1167
      have hf1248 : K1219.1 q = 1 := (BdE.T h1230 hf1168 (by decide))
      have hf1249 : K1219.1 mq = 3 := (BdE.T h1230 hf1169 (by decide))
      have hf1250 : K1219.2.1 10 mq = (nI rt) := (BdE.I h1230 (by rw [hf1169]; decide) (by decide) (by decide)).trans hf1170
      have hf1251 : K1219.2.2.1 3 q = some q4 := (BdE.C h1230 (by rw [hf1168]; decide) 3).trans hf1171
      have hf1252 : K1219.1 q4 = 1 := (BdE.T h1230 hf1172 (by decide))
      have hf1253 : K1219.2.2.1 1 q = ob := (BdE.C h1230 (by rw [hf1168]; decide) 1).trans hf1173
      have hf1254 : K1219.2.2.1 0 q = some z1 := (BdE.C h1230 (by rw [hf1168]; decide) 0).trans hf1174
      have hf1255 : K1219.1 z1 = 1 := (BdE.T h1230 hf1175 (by decide))
      have hf1256 : K1219.2.2.1 2 q = some z3 := (BdE.C h1230 (by rw [hf1168]; decide) 2).trans hf1176
      have hf1257 : K1219.1 z3 = 1 := (BdE.T h1230 hf1177 (by decide))
      have hO : OKP G h0 a (upd (upd (upd (upd (upd (upd (upd (upd (upd (upd F 2 (nI sz)) 5 (nI cs1221)) 6 (nI rg)) 7 (nI hd1143)) 8 (nI dp1144)) 12 (nI vr1142)) 13 as1222) 14 wt1223) 15 wf1224) 16 ls9) (updR (updR (updR R 2 (.ref pq)) 3 (.ref mq)) 4 (va_rf lp9)) Z B1220 J K1219 w := hO.to rfl
      refine W.widen (k := 0) (n := 0) (by show 0 + 0 ≤ 0; omega) (by show 0 + 0 ≤ 0; omega) ?_
      refine W.eq (g2 := F0 m 56 ls [.int x1225]) rfl ?_
      have hbe1258 := BdE.trans hbe1178 h1230
      have hbb1259 : Bth B B1220 := Bth.trans (show Thx (upd (upd (upd (upd (upd (upd (upd (upd F 2 (nI sz)) 5 (nI cs)) 6 (nI rg)) 7 (nI hd)) 8 (nI dp)) 12 (nI vr)) 13 as9) 16 ls9) (upd (upd (upd (upd (upd (upd (upd (upd (upd (upd (upd (upd (upd (upd (upd F 2 (nI sz)) 5 (nI cs)) 6 (nI rg)) 7 (nI hd)) 8 (nI dp)) 12 (nI vr)) 13 as9) 16 ls9) 5 (nI (cs1138 + 1))) 7 (nI hd1143)) 8 (nI dp1144)) 12 (nI vr1142)) 13 as1139) 14 wt1140) 15 wf1141) B (updA (updA (updA (updA B1137 16 (upd ((B1137 16)) cs1138 0)) 17 (upd ((B1137 17)) cs1138 0)) 18 (upd ((B1137 18)) cs1138 0)) 19 (upd ((B1137 19)) cs1138 (nI hd1143))) from (Thx.b (Thx.b8 (Thx.b (Thx.b (Thx.f (Thx.f (Thx.f (Thx.f (Thx.f (Thx.f (Thx.f (Bth.thx hbb1179) (by omega)) (by omega)) (by omega)) (by omega)) (by omega)) (by omega)) (by omega)) (by omega) (by decide)) (by omega) (by decide)) hng1211) (by omega) (by decide))).2 h1233
      have hng1260 : Nng (B1220 18) := h1233.2 hng1211
      have hsw1261 : ∀ x9 : Nat, x9 < cs → (B1220 16) x9 = B 16 x9 := fun x9 hx9 => ((h1229 x9 (by omega)).1).trans (hsw1200 x9 hx9)
      have hsw1262 : ∀ x9 : Nat, x9 < cs → (B1220 17) x9 = B 17 x9 := fun x9 hx9 => ((h1229 x9 (by omega)).2.1).trans (hsw1201 x9 hx9)
      have hsw1263 : ∀ x9 : Nat, x9 < cs → (B1220 18) x9 = B 18 x9 := fun x9 hx9 => ((h1229 x9 (by omega)).2.2.1).trans (hsw1202 x9 hx9)
      have hsw1264 : ∀ x9 : Nat, x9 < cs → (B1220 19) x9 = B 19 x9 := fun x9 hx9 => ((h1229 x9 (by omega)).2.2.2).trans (hsw1203 x9 hx9)
      have hsx1265 : ∀ x9 : Nat, x9 < cs1138 → (B1220 16) x9 = (B1137 16) x9 := fun x9 hx9 => ((h1229 x9 (by omega)).1).trans (hsx1204 x9 hx9)
      have hsx1266 : ∀ x9 : Nat, x9 < cs1138 → (B1220 17) x9 = (B1137 17) x9 := fun x9 hx9 => ((h1229 x9 (by omega)).2.1).trans (hsx1205 x9 hx9)
      have hsx1267 : ∀ x9 : Nat, x9 < cs1138 → (B1220 18) x9 = (B1137 18) x9 := fun x9 hx9 => ((h1229 x9 (by omega)).2.2.1).trans (hsx1206 x9 hx9)
      have hsx1268 : ∀ x9 : Nat, x9 < cs1138 → (B1220 19) x9 = (B1137 19) x9 := fun x9 hx9 => ((h1229 x9 (by omega)).2.2.2).trans (hsx1207 x9 hx9)
      have hbf1269 := BeF.trans hbf1185 h1231 hbe1178
      have hbl1271 : BeL K K1219 lp9 := BeL.trans hbl1187 (BeL.any h1232) hbe1178
      have hbr1270 : BtR B B1220 := BtR.trans (BtR.up (BtR.up (BtR.up (BtR.up hbr1186 (by omega)) (by omega)) (by omega)) (by omega)) (BeR.bt h1234)
      have hvs1272 : VrS B B1220 vr := fun i9 hi9 => ⟨(congrFun (h1234 26 (by decide)) i9).trans (hvs1188 i9 hi9).1, (congrFun (h1234 27 (by decide)) i9).trans (hvs1188 i9 hi9).2⟩
      have hvF1273 : VrS B1137 B1220 vr1142 := fun i9 hi9 => ⟨(congrFun (h1234 26 (by decide)) i9).trans (VrS.rfl i9 hi9).1, (congrFun (h1234 27 (by decide)) i9).trans (VrS.rfl i9 hi9).2⟩
      have hen1274 : EnV (B1220 26) (B1220 27) nd vr1142 hd1143 c0 sl1146 := EnV.of (h1234 26 (by decide)) (h1234 27 (by decide)) h1159
      have hrq1275 : RgQx B1220 Q9 gr nd := RgQx.ber hrq1191 (h1234 20 (by decide)) (h1234 21 (by decide)) (h1234 22 (by decide)) (h1234 23 (by decide)) (h1234 24 (by decide))
      have hst1276 : StW pb.1 pb.2.1 pb.2.2.1 pb.2.2.2 Ag1145 Ag1226 Q9 Q9 pd pd1227 m9 dp1144 lw cs1138 cs1221 as1139 wt1223 hd1143 hd1143 sl1146 sl1146 gr gr (B1220 16) (B1220 17) (B1220 18) (B1220 19) ([] : List Nat) := StW.seq hst1209 (Nat.le_refl _) (fun x9 hx9 => ⟨(h1229 x9 hx9).1, (h1229 x9 hx9).2.1⟩) h1238
      have hj1277 : (B1220 16) cs1138 = (nI 0) := ((h1229 cs1138 (by omega)).1).trans hj1212
      have hj1278 : Ag1226 cs1138 = (rcA as1139, hd1143, sl1146, ([] : List Nat)) := (h1238.2.2.1 cs1138 (by omega)).trans hj1213
      have hbk1279 : BeL K1136 K1219 none := BeL.trans hbkF (BeL.any h1232) hbjF
      have hbj1280 : BdE K1136 K1219 := BdE.trans hbjF h1230
      have hlr1281 : LpR K1219 lp9 rL := LpR.same hlr1194 (fun lq9 e9 f9 _ _ => h1232 lq9 (LpO.be hbe1178 hlo lq9 e9) (fun z => by cases z) f9)
      refine lv_istore (lv' := [(5, .int x1225), (4, .int (nI cs1138)), (3, .int (nI hd)), (2, .int (nI vr)), (0, .ref (a 4)), (1, .ref q)]) hx hb dX0_loopStatement_56 hl (by decide) rfl (fun ls hl => ?_)
      refine lv_aload_n hx hb dX0_loopStatement_58 rfl (lv_at hl 4 rfl) ?_
      refine c_get (v := .int wf1224) (C := RX0) (Tc := TX0) (N := 13) (ci := 0) hx hb hq pin_wsX00 hown hE hP hO 24 (sg_24 G h0 a _ _ _ _ _) rfl 10 (by decide) (hq _ pw_157) (fun _ h9 => h9) rfl dX0_loopStatement_59 ?_
      refine lv_istore (lv' := [(6, .int wf1224), (5, .int x1225), (4, .int (nI cs1138)), (3, .int (nI hd)), (2, .int (nI vr)), (0, .ref (a 4)), (1, .ref q)]) hx hb dX0_loopStatement_62 hl (by decide) rfl (fun ls hl => ?_)
      refine lv_aload_n hx hb dX0_loopStatement_64 rfl (lv_at hl 5 rfl) ?_
      refine lv_aload_n hx hb dX0_loopStatement_65 rfl (lv_at hl 5 rfl) ?_
      refine c_get (v := .int wt1223) (C := RX0) (Tc := TX0) (N := 13) (ci := 0) hx hb hq pin_wsX00 hown hE hP hO 24 (sg_24 G h0 a _ _ _ _ _) rfl 9 (by decide) (hq _ pw_156) (fun _ h9 => h9) rfl dX0_loopStatement_66 ?_
      refine c_put (v := .int wt1223) (ty := .int) (C := RX0) (Tc := TX0) (N := 13) (ci := 0) hx hb hq pin_wsX00 tyX0 tyX0_ok nmX0 hown hE hP hD hS hO 24 (sg_24 G h0 a _ _ _ _ _) rfl 8 (by decide) (hq _ pw_55) (fun _ h9 => h9) rfl (by decide +kernel) rfl rfl (Nat.le_of_ble_eq_true rfl) (sf_13 G h0 a _ _ _ _ _ wt1223) dX0_loopStatement_69 (fun H locs w hP hD hS hO => ?_)
      refine lv_aload_n hx hb dX0_loopStatement_72 rfl (lv_at hl 5 rfl) ?_
      refine p_new (s9 := 9) (C := RX4) (T := TX4) (N := 6) (ci := 11) (fs := [.null, .int 0, .int 0, .int 0, .int 0, .int 0]) hx hb hq pin_wsX40 tyX4 tyX4_ok hown (hq _ pw_313) (hq _ pw_314) (hq _ pw_315) hE hP hD hS hA hO rfl nw_X4 (by decide) (fun q => by rw [rep_9 (show (kN K1219 q 9 0).1 q = 9 from if_pos rfl)]; unfold fsLoop kN; simp only [if_true]; rfl) (by show 0 + 1 ≤ ((rE (g 2 q) - rS (g 2 q)) + 1); omega) (by show 0 + 6 ≤ (6 * (rE (g 2 q) - rS (g 2 q)) + 6); omega) dX0_loopStatement_73 (fun q1282 H w hq1283 hP hD hS hO => ?_)
      have hf1284 : (kN K1219 q1282 9 0).1 pq = 7 := (if_neg (fun z => by have z2 := hf1241; rw [z, hq1283] at z2; exact absurd z2 (by decide))).trans hf1241
      have hf1285 : (kN K1219 q1282 9 0).2.2.1 18 pq = some (a 1) := (if_neg (fun z => by have z2 := hf1241; rw [z, hq1283] at z2; exact absurd z2 (by decide))).trans hf1242
      have hf1286 : (kN K1219 q1282 9 0).2.2.1 14 pq = some dr := (if_neg (fun z => by have z2 := hf1241; rw [z, hq1283] at z2; exact absurd z2 (by decide))).trans hf1243
      have hf1287 : (kN K1219 q1282 9 0).1 dr = 8 := (if_neg (fun z => by have z2 := hf1244; rw [z, hq1283] at z2; exact absurd z2 (by decide))).trans hf1244
      have hf1288 : (kN K1219 q1282 9 0).2.2.1 15 pq = some ml := (if_neg (fun z => by have z2 := hf1241; rw [z, hq1283] at z2; exact absurd z2 (by decide))).trans hf1245
      have hf1289 : (kN K1219 q1282 9 0).1 ml = 5 := (if_neg (fun z => by have z2 := hf1246; rw [z, hq1283] at z2; exact absurd z2 (by decide))).trans hf1246
      have hf1290 : (kN K1219 q1282 9 0).2.1 24 pq = (nI nd) := (if_neg (fun z => by have z2 := hf1241; rw [z, hq1283] at z2; exact absurd z2 (by decide))).trans hf1247
      have hf1291 : (kN K1219 q1282 9 0).1 q = 1 := (if_neg (fun z => by have z2 := hf1248; rw [z, hq1283] at z2; exact absurd z2 (by decide))).trans hf1248
      have hf1292 : (kN K1219 q1282 9 0).1 mq = 3 := (if_neg (fun z => by have z2 := hf1249; rw [z, hq1283] at z2; exact absurd z2 (by decide))).trans hf1249
      have hf1293 : (kN K1219 q1282 9 0).2.1 10 mq = (nI rt) := (if_neg (fun z => by have z2 := hf1249; rw [z, hq1283] at z2; exact absurd z2 (by decide))).trans hf1250
      have hf1294 : (kN K1219 q1282 9 0).2.2.1 3 q = some q4 := (if_neg (fun z => by have z2 := hf1248; rw [z, hq1283] at z2; exact absurd z2 (by decide))).trans hf1251
      have hf1295 : (kN K1219 q1282 9 0).1 q4 = 1 := (if_neg (fun z => by have z2 := hf1252; rw [z, hq1283] at z2; exact absurd z2 (by decide))).trans hf1252
      have hf1296 : (kN K1219 q1282 9 0).2.2.1 1 q = ob := (if_neg (fun z => by have z2 := hf1248; rw [z, hq1283] at z2; exact absurd z2 (by decide))).trans hf1253
      have hf1297 : (kN K1219 q1282 9 0).2.2.1 0 q = some z1 := (if_neg (fun z => by have z2 := hf1248; rw [z, hq1283] at z2; exact absurd z2 (by decide))).trans hf1254
      have hf1298 : (kN K1219 q1282 9 0).1 z1 = 1 := (if_neg (fun z => by have z2 := hf1255; rw [z, hq1283] at z2; exact absurd z2 (by decide))).trans hf1255
      have hf1299 : (kN K1219 q1282 9 0).2.2.1 2 q = some z3 := (if_neg (fun z => by have z2 := hf1248; rw [z, hq1283] at z2; exact absurd z2 (by decide))).trans hf1256
      have hf1300 : (kN K1219 q1282 9 0).1 z3 = 1 := (if_neg (fun z => by have z2 := hf1257; rw [z, hq1283] at z2; exact absurd z2 (by decide))).trans hf1257
      have hf1301 : (kN K1219 q1282 9 0).1 q1282 = 9 := if_pos rfl
      refine W.widen (k := 1) (n := 6) (by show 0 + 1 ≤ 1; omega) (by show 0 + 6 ≤ 6; omega) ?_
      refine lv_dup hx hb dX0_loopStatement_76 rfl ?_
      refine lv_aload_n hx hb dX0_loopStatement_77 rfl (lv_at hl 5 rfl) ?_
      refine c_get (v := va_rf lp9) (C := RX0) (Tc := TX0) (N := 13) (ci := 0) hx hb hq pin_wsX00 hown hE hP hO 24 (sg_24 G h0 a _ _ _ _ _) rfl 11 (by decide) (hq _ pw_73) (fun _ h9 => h9) rfl dX0_loopStatement_78 ?_
      refine lv_aload_n hx hb dX0_loopStatement_81 rfl (lv_at hl 5 rfl) ?_
      refine c_get (v := .int ls9) (C := RX0) (Tc := TX0) (N := 13) (ci := 0) hx hb hq pin_wsX00 hown hE hP hO 24 (sg_24 G h0 a _ _ _ _ _) rfl 12 (by decide) (hq _ pw_74) (fun _ h9 => h9) rfl dX0_loopStatement_82 ?_
      have hO : OKP G h0 a (upd (upd (upd (upd (upd (upd (upd (upd (upd (upd F 2 (nI sz)) 5 (nI cs1221)) 6 (nI rg)) 7 (nI hd1143)) 8 (nI dp1144)) 12 (nI vr1142)) 13 wt1223) 14 wt1223) 15 wf1224) 16 ls9) (updR (updR (updR R 2 (.ref pq)) 3 (.ref mq)) 4 (va_rf lp9)) Z B1220 J (kN K1219 q1282 9 0) w := hO.to rfl
      obtain ⟨qr1305, hqr1306⟩ := p_recv hO (by rw [hf1301]; decide) (rep_9 hf1301)
      refine pc_I0 (G := G) (As := [va_rf lp9, .int ls9]) (rest := [.ref q1282, .ref (a 4)]) hx hb hml hown hq hE hX pX0_al hP hD hS hA hl.1 (O_initV l G h0 a (upd (upd (upd (upd (upd (upd (upd (upd (upd (upd F 2 (nI sz)) 5 (nI cs1221)) 6 (nI rg)) 7 (nI hd1143)) 8 (nI dp1144)) 12 (nI vr1142)) 13 wt1223) 14 wt1223) 15 wf1224) 16 ls9) (updR (updR (updR R 2 (.ref pq)) 3 (.ref mq)) 4 (va_rf lp9)) Z B1220 J (kN K1219 q1282 9 0) w q1282 lp9 ls9 hf1301 hO) pw_321 pw_322 pw_315 pw_272 rfl hS_X4_init rfl (Nat.le_of_ble_eq_true rfl) dX0_loopStatement_85 ⟨(by show 1 + 0 ≤ ((rE (g 2 q) - rS (g 2 q)) + 1); omega), (by show 6 + 0 ≤ (6 * (rE (g 2 q) - rS (g 2 q)) + 6); omega)⟩ ⟨(by show 2 + 1 ≤ (5 * n + 46); omega), (by show 8 + (3 + 11) + 60 ≤ (200 * n + 1120); omega)⟩ (fun v1304 u1302 H locs hw1303 hP hD hS => ?_)
      obtain ⟨w, _⟩ := u1302
      obtain ⟨hw1303, hO⟩ := hw1303
      obtain rfl : v1304 = none := hw1303
      have hf1307 : (kI (kI (kI (kI (kI (kC (kN K1219 q1282 9 0) 16 q1282 lp9) 26 q1282 ls9) 27 q1282 (-1)) 28 q1282 (-1)) 29 q1282 (-1)) 30 q1282 (-1)).1 pq = 7 := hf1284
      have hf1308 : (kI (kI (kI (kI (kI (kC (kN K1219 q1282 9 0) 16 q1282 lp9) 26 q1282 ls9) 27 q1282 (-1)) 28 q1282 (-1)) 29 q1282 (-1)) 30 q1282 (-1)).1 dr = 8 := hf1287
      have hf1309 : (kI (kI (kI (kI (kI (kC (kN K1219 q1282 9 0) 16 q1282 lp9) 26 q1282 ls9) 27 q1282 (-1)) 28 q1282 (-1)) 29 q1282 (-1)) 30 q1282 (-1)).1 ml = 5 := hf1289
      have hf1310 : (kI (kI (kI (kI (kI (kC (kN K1219 q1282 9 0) 16 q1282 lp9) 26 q1282 ls9) 27 q1282 (-1)) 28 q1282 (-1)) 29 q1282 (-1)) 30 q1282 (-1)).1 q = 1 := hf1291
      have hf1311 : (kI (kI (kI (kI (kI (kC (kN K1219 q1282 9 0) 16 q1282 lp9) 26 q1282 ls9) 27 q1282 (-1)) 28 q1282 (-1)) 29 q1282 (-1)) 30 q1282 (-1)).1 mq = 3 := hf1292
      have hf1312 : (kI (kI (kI (kI (kI (kC (kN K1219 q1282 9 0) 16 q1282 lp9) 26 q1282 ls9) 27 q1282 (-1)) 28 q1282 (-1)) 29 q1282 (-1)) 30 q1282 (-1)).1 q4 = 1 := hf1295
      have hf1313 : (kI (kI (kI (kI (kI (kC (kN K1219 q1282 9 0) 16 q1282 lp9) 26 q1282 ls9) 27 q1282 (-1)) 28 q1282 (-1)) 29 q1282 (-1)) 30 q1282 (-1)).1 z1 = 1 := hf1298
      have hf1314 : (kI (kI (kI (kI (kI (kC (kN K1219 q1282 9 0) 16 q1282 lp9) 26 q1282 ls9) 27 q1282 (-1)) 28 q1282 (-1)) 29 q1282 (-1)) 30 q1282 (-1)).1 z3 = 1 := hf1300
      have hf1315 : (kI (kI (kI (kI (kI (kC (kN K1219 q1282 9 0) 16 q1282 lp9) 26 q1282 ls9) 27 q1282 (-1)) 28 q1282 (-1)) 29 q1282 (-1)) 30 q1282 (-1)).1 q1282 = 9 := hf1301
      have hO : OKP G h0 a (upd (upd (upd (upd (upd (upd (upd (upd (upd (upd F 2 (nI sz)) 5 (nI cs1221)) 6 (nI rg)) 7 (nI hd1143)) 8 (nI dp1144)) 12 (nI vr1142)) 13 wt1223) 14 wt1223) 15 wf1224) 16 ls9) (updR (updR (updR R 2 (.ref pq)) 3 (.ref mq)) 4 (va_rf lp9)) Z B1220 J (kI (kI (kI (kI (kI (kC (kN K1219 q1282 9 0) 16 q1282 lp9) 26 q1282 ls9) 27 q1282 (-1)) 28 q1282 (-1)) 29 q1282 (-1)) 30 q1282 (-1)) w := hO.to rfl
      refine W.widen (k := 1) (n := 6) (by show 1 + 0 ≤ 1; omega) (by show 6 + 0 ≤ 6; omega) ?_
      refine W.eq (g2 := F0 m 88 ls [.ref q1282, .ref (a 4)]) rfl ?_
      obtain ⟨K1316, hK1317⟩ : ∃ z : PK, z = (kI (kI (kI (kI (kI (kC (kN K1219 q1282 9 0) 16 q1282 lp9) 26 q1282 ls9) 27 q1282 (-1)) 28 q1282 (-1)) 29 q1282 (-1)) 30 q1282 (-1)) := ⟨_, rfl⟩
      rw [← hK1317] at hO
      have hbx1318 : BdE K1219 K1316 := by rw [hK1317]; exact BdE.loop hq1283
      have hbe1319 := BdE.trans hbe1258 hbx1318
      have hf1320 : K1316.1 pq = 7 := (BdE.T hbx1318 hf1241 (by decide))
      have hf1321 : K1316.2.2.1 18 pq = some (a 1) := (BdE.C hbx1318 (by rw [hf1241]; decide) 18).trans hf1242
      have hf1322 : K1316.2.2.1 14 pq = some dr := (BdE.C hbx1318 (by rw [hf1241]; decide) 14).trans hf1243
      have hf1323 : K1316.1 dr = 8 := (BdE.T hbx1318 hf1244 (by decide))
      have hf1324 : K1316.2.2.1 15 pq = some ml := (BdE.C hbx1318 (by rw [hf1241]; decide) 15).trans hf1245
      have hf1325 : K1316.1 ml = 5 := (BdE.T hbx1318 hf1246 (by decide))
      have hf1326 : K1316.2.1 24 pq = (nI nd) := (BdE.I hbx1318 (by rw [hf1241]; decide) (by decide) (by decide)).trans hf1247
      have hf1327 : K1316.1 q = 1 := (BdE.T hbx1318 hf1248 (by decide))
      have hf1328 : K1316.1 mq = 3 := (BdE.T hbx1318 hf1249 (by decide))
      have hf1329 : K1316.2.1 10 mq = (nI rt) := (BdE.I hbx1318 (by rw [hf1249]; decide) (by decide) (by decide)).trans hf1250
      have hf1330 : K1316.2.2.1 3 q = some q4 := (BdE.C hbx1318 (by rw [hf1248]; decide) 3).trans hf1251
      have hf1331 : K1316.1 q4 = 1 := (BdE.T hbx1318 hf1252 (by decide))
      have hf1332 : K1316.2.2.1 1 q = ob := (BdE.C hbx1318 (by rw [hf1248]; decide) 1).trans hf1253
      have hf1333 : K1316.2.2.1 0 q = some z1 := (BdE.C hbx1318 (by rw [hf1248]; decide) 0).trans hf1254
      have hf1334 : K1316.1 z1 = 1 := (BdE.T hbx1318 hf1255 (by decide))
      have hf1335 : K1316.2.2.1 2 q = some z3 := (BdE.C hbx1318 (by rw [hf1248]; decide) 2).trans hf1256
      have hf1336 : K1316.1 z3 = 1 := (BdE.T hbx1318 hf1257 (by decide))
      have hf1337 : K1316.1 q1282 = 9 := by rw [hK1317]; exact if_pos rfl
      have hf1338 : K1316.2.2.1 16 q1282 = lp9 := by rw [hK1317]; exact kC_eq
      have hbf1339 : BeF K1219 K1316 := by rw [hK1317]; exact BeF.loop hq1283
      have hbl1340 : BeL K1219 K1316 none := by rw [hK1317]; exact BeL.loop hq1283
      have hbf1341 := BeF.trans hbf1269 hbf1339 hbe1258
      have hbl1342 : BeL K K1316 lp9 := BeL.trans hbl1271 (BeL.any hbl1340) hbe1258
      have hlf1343 : K1316.2.1 27 q1282 = -1 := by rw [hK1317]; exact loop_27
      have hlf1344 : K1316.2.1 28 q1282 = -1 := by rw [hK1317]; exact loop_28
      have hlf1345 : K1316.2.1 29 q1282 = -1 := by rw [hK1317]; exact loop_29
      have hlf1346 : K1316.2.1 30 q1282 = -1 := by rw [hK1317]; exact loop_30
      have hbk1347 : BeL K1136 K1316 none := BeL.trans hbk1279 (BeL.any hbl1340) hbj1280
      have hbj1348 : BdE K1136 K1316 := BdE.trans hbj1280 hbx1318
      have hlr1349 : LpR K1316 lp9 rL := LpR.same hlr1281 (fun lq9 e9 f9 _ _ => hbl1340 lq9 (LpO.be hbe1258 hlo lq9 e9) (fun z => by cases z) f9)
      have hbk1350 : BeL K1136 K1316 (some q1282) := BeL.any hbk1347
      have hinn : K.1 q1282 = 0 := BdE.fr hbe1258 hq1283
      refine c_put (v := .ref q1282) (ty := (.object "JinjaTongue$Loop")) (C := RX0) (Tc := TX0) (N := 13) (ci := 0) hx hb hq pin_wsX00 tyX0 tyX0_ok nmX0 hown hE hP hD hS hO 24 (sg_24 G h0 a _ _ _ _ _) rfl 11 (by decide) (hq _ pw_73) (fun _ h9 => h9) rfl (by decide +kernel) rfl rfl (Nat.le_of_ble_eq_true rfl) (sr_4 G h0 a _ _ _ _ _ (.ref q1282)) dX0_loopStatement_88 (fun H locs w hP hD hS hO => ?_)
      refine lv_aload_n hx hb dX0_loopStatement_91 rfl (lv_at hl 5 rfl) ?_
      refine lv_aload_n hx hb dX0_loopStatement_92 rfl (lv_at hl 6 rfl) ?_
      refine p_get (v := .ref q4) (C := RX7) (Tc := TX7) (N := 11) (ci := 13) hx hb hq pin_wsX70 hown hE hP hO (by rw [hf1327]; decide) (rep_1 hf1327) rfl 9 (by decide) (hq _ pw_316) (fun _ h9 => h9) (congrArg (fun z => some (va_rf z)) hf1330) dX0_loopStatement_93 ?_
      refine lv_iconst (v := 1) hx hb dX0_loopStatement_96 (by decide) ?_
      have htl1351 : tlE g q4 = rE (g 2 q4) - rS (g 2 q4) := rfl
      have hO : OKP G h0 a (upd (upd (upd (upd (upd (upd (upd (upd (upd (upd (upd (upd (upd (upd (upd (upd (upd (upd (upd (upd (upd (upd (upd F 2 (nI sz)) 5 (nI cs)) 6 (nI rg)) 7 (nI hd)) 8 (nI dp)) 12 (nI vr)) 13 as9) 16 ls9) 5 (nI cs1221)) 7 (nI hd1143)) 8 (nI dp1144)) 12 (nI vr1142)) 13 wt1223) 14 wt1223) 15 wf1224) 2 (nI sz)) 5 (nI cs1221)) 6 (nI rg)) 7 (nI hd1143)) 8 (nI dp1144)) 12 (nI vr1142)) 13 wt1223) 16 ls9) (updR (updR (updR (updR (updR (updR R 2 (.ref pq)) 3 (.ref mq)) 4 (.ref q1282)) 2 (.ref pq)) 3 (.ref mq)) 4 (va_rf (some q1282))) Z B1220 J K1316 w := hO.to rfl
      obtain ⟨_, qr1355, hqr1356⟩ := hO.2.1 24 _ (sg_24 G h0 a _ _ _ _ _)
      refine pn_V0 (G := G) (As := [.ref q4, .int (nI 1)]) (rest := []) hx hb hml hown hq hE hX pX0_al hP hD hS hA hl.1 ((ist (n - 1) (by omega)) h0 a (upd (upd (upd (upd (upd (upd (upd (upd (upd (upd (upd (upd (upd (upd (upd F 2 (nI sz)) 5 (nI cs)) 6 (nI rg)) 7 (nI hd)) 8 (nI dp)) 12 (nI vr)) 13 as9) 16 ls9) 5 (nI cs1221)) 7 (nI hd1143)) 8 (nI dp1144)) 12 (nI vr1142)) 13 wt1223) 14 wt1223) 15 wf1224) (updR (updR (updR R 2 (.ref pq)) 3 (.ref mq)) 4 (.ref q1282)) Z B1220 J K1316 w pq dr ml nd nm cp it s9 q4 mq cs1221 vr1142 sz 1 hd1143 dp1144 rg ls9 (some q1282) g rk pb Ag1226 Q9 pd1227 sl1146 m9 lw c0 rt gr wt1223 hd1143 sl1146 ([] : List Nat) ([] : List Nat) (¬ as1139 = -1) (by omega) (BdE.wp hbe1319 hwp) (BdE.pt hbe1319 hwp hps) (BdE.rko hbe1319 hrk) (by omega) (by omega) hng1260 hf1328 hf1331 ⟨hv3.1, (by have z9 := hv3; omega)⟩ hf1329 hrv (by omega) (by omega) (by omega) (fun x9 h9 => by cases h9; exact hf1337) (EkA.be hbe1319 (hbr1270 7 (by decide)) (hbr1270 11 (by decide)) hek) (OwC.be hbe1319 hmq hdr0 hcO) (NaB.be hbe1319 hbf1341 hwp hps.2.1 hdr0 (hbr1270 11 (by decide)) hna) hen1274 h1236.2.1 hst1276.1 (by omega) (by omega) (by omega) (SkA.be hbe1319 (hbr1270 11 (by decide)) hsk) (LpS.new hlf1343 hlf1344 hlf1345 hlf1346 (fun z9 h9 => by rcases (h1240 z9).mp h9 with y9 | y9; (have v9 := hlp1192.1 z9 y9; omega); (have v9 := (ExJ.rng h1239 z9 y9).2; omega))) hrq1275 hst1276.2.2.2.2.2.1 (LpR.new hlf1345 hlf1346) (by omega) hO hl0) (gV pw_300 pw_301 pw_302 pw_63 pw_323) hV_X0_statement qr1355 0 hqr1356 rfl rfl rfl (Nat.le_of_ble_eq_true rfl) dX0_loopStatement_97 ⟨(by show 1 + ((rE (g 2 q4) - rS (g 2 q4)) + 1) ≤ ((rE (g 2 q) - rS (g 2 q)) + 1); omega), (by show 6 + (6 * (rE (g 2 q4) - rS (g 2 q4)) + 6) ≤ (6 * (rE (g 2 q) - rS (g 2 q)) + 6); omega)⟩ ⟨(by show (5 * (n - 1) + 50) + 1 ≤ (5 * n + 46); omega), (by show 8 + (3 + 11) + (200 * (n - 1) + 1200) ≤ (200 * n + 1120); omega)⟩ (fun v1354 u1352 H locs hw1353 hP hD hS => ?_) (fun ux ce9 q9 H9 locs9 hux hP9 hD9 hS9 hce hcv hcl => pb_out ux (ThQ.up (Thx.same (Thx.same (Thx.same (Thx.same (Thx.same (Thx.same (Thx.same (Thx.same (Thx.f (Thx.f (Thx.f (Thx.f (Thx.f (Thx.f (Thx.f (Bth.thx hbb1259) (by omega)) (by omega)) (by omega)) (by omega)) (by omega)) (by omega)) (by omega)) rfl) rfl) rfl) rfl) rfl) rfl) rfl) rfl) (show RhX (updR (updR (updR R 2 (.ref pq)) 3 (.ref mq)) 4 (va_rf lp9)) (updR (updR (updR (updR (updR (updR R 2 (.ref pq)) 3 (.ref mq)) 4 (.ref q1282)) 2 (.ref pq)) 3 (.ref mq)) 4 (va_rf (some q1282))) from fun k9 hk9 => by unfold updR; simp only [show ¬ k9 = 1 by omega, show ¬ k9 = 2 by omega, show ¬ k9 = 3 by omega, show ¬ k9 = 4 by omega, if_false]) hux) hnt hlocks hce hcv hcl hP9 hD9 hS9 (by show 1 + ((rE (g 2 q4) - rS (g 2 q4)) + 1) ≤ ((rE (g 2 q) - rS (g 2 q)) + 1); omega) (by show 6 + (6 * (rE (g 2 q4) - rS (g 2 q4)) + 6) ≤ (6 * (rE (g 2 q) - rS (g 2 q)) + 6); omega))
      obtain ⟨w, K1357, B1358, cs1359, as1360, wt1361, wf1362, vr1363, hd1364, dp1365, Ag1366, sl1367, rg1368, gr1369, ls1370, Q1371, pd1372, xb1373, xc1374⟩ := u1352
      obtain ⟨hw1353, h1375, h1376, h1377, h1378, h1379, h1380, h1381, h1382, h1383, h1384, h1385, h1386, h1387, h1388, h1389, h1390, h1391, h1392, h1393, h1394, hO⟩ := hw1353
      have h1375 : SmW B1220 B1358 cs1221 := h1375
      have h1376 : BdE K1316 K1357 := h1376
      have h1377 : BeF K1316 K1357 := h1377
      have h1378 : BeL K1316 K1357 (some q1282) := h1378
      have h1379 : Bth B1220 B1358 := h1379
      have h1380 : BtR B1220 B1358 := h1380
      have h1381 : cs1221 ≤ cs1359 ∧ cs1359 + 0 ≤ cs1221 + 2 * tlE g q4 := h1381
      have h1382 : dp1144 ≤ dp1365 ∧ dp1365 ≤ 71 := h1382
      have h1383 : vr1142 ≤ vr1363 ∧ vr1363 ≤ 30 ∧ hd1364 + vr1142 = hd1143 + vr1363 := h1383
      have h1384 : AsO as1360 := h1384
      have h1385 : VrS B1220 B1358 vr1142 := h1385
      have h1386 : cs1221 < cs1359 ∨ (hd1364 = hd1143 ∧ sl1367 = sl1146) := h1386
      have h1387 : ¬ K1316.2.1 0 q4 = 22 → hd1364 = hd1143 := h1387
      have h1388 : gr ≤ gr1369 ∧ rg1368 ≤ 625 ∧ rg1368 ≤ gr1369 ∧ (rg1368 = 625 ∨ rg1368 = gr1369) := h1388
      have h1389 : EnV (B1358 26) (B1358 27) nd vr1363 hd1364 c0 sl1367 := h1389
      have h1390 : StW pb.1 pb.2.1 pb.2.2.1 pb.2.2.2 Ag1226 Ag1366 Q9 Q1371 pd1227 pd1372 m9 dp1365 lw cs1221 cs1359 wt1223 as1360 hd1143 hd1364 sl1146 sl1367 gr gr1369 (B1358 16) (B1358 17) (B1358 18) (B1358 19) [] := h1390
      have h1391 : LpS K1357 (B1358 16) (B1358 17) Ag1366 pd1372 (some q1282) lw cs1359 hd1364 sl1367 hd1143 sl1146 xb1373 xc1374 := h1391
      have h1392 : PdS pd1227 pd1372 ([] : List Nat) xb1373 ([] : List Nat) xc1374 [] cs1221 cs1359 := h1392
      have h1393 : RgQx B1358 Q1371 gr1369 nd := h1393
      have h1394 : LpR K1357 (some q1282) (¬ as1139 = -1) := h1394
      obtain rfl : v1354 = none := hw1353
      have hf1395 : K1357.1 pq = 7 := (BdE.T h1376 hf1320 (by decide))
      have hf1396 : K1357.2.2.1 18 pq = some (a 1) := (BdE.C h1376 (by rw [hf1320]; decide) 18).trans hf1321
      have hf1397 : K1357.2.2.1 14 pq = some dr := (BdE.C h1376 (by rw [hf1320]; decide) 14).trans hf1322
      have hf1398 : K1357.1 dr = 8 := (BdE.T h1376 hf1323 (by decide))
      have hf1399 : K1357.2.2.1 15 pq = some ml := (BdE.C h1376 (by rw [hf1320]; decide) 15).trans hf1324
      have hf1400 : K1357.1 ml = 5 := (BdE.T h1376 hf1325 (by decide))
      have hf1401 : K1357.2.1 24 pq = (nI nd) := (BdE.I h1376 (by rw [hf1320]; decide) (by decide) (by decide)).trans hf1326
      have hf1402 : K1357.1 q = 1 := (BdE.T h1376 hf1327 (by decide))
      have hf1403 : K1357.1 mq = 3 := (BdE.T h1376 hf1328 (by decide))
      have hf1404 : K1357.2.1 10 mq = (nI rt) := (BdE.I h1376 (by rw [hf1328]; decide) (by decide) (by decide)).trans hf1329
      have hf1405 : K1357.2.2.1 3 q = some q4 := (BdE.C h1376 (by rw [hf1327]; decide) 3).trans hf1330
      have hf1406 : K1357.1 q4 = 1 := (BdE.T h1376 hf1331 (by decide))
      have hf1407 : K1357.2.2.1 1 q = ob := (BdE.C h1376 (by rw [hf1327]; decide) 1).trans hf1332
      have hf1408 : K1357.2.2.1 0 q = some z1 := (BdE.C h1376 (by rw [hf1327]; decide) 0).trans hf1333
      have hf1409 : K1357.1 z1 = 1 := (BdE.T h1376 hf1334 (by decide))
      have hf1410 : K1357.2.2.1 2 q = some z3 := (BdE.C h1376 (by rw [hf1327]; decide) 2).trans hf1335
      have hf1411 : K1357.1 z3 = 1 := (BdE.T h1376 hf1336 (by decide))
      have hf1412 : K1357.1 q1282 = 9 := (BdE.T h1376 hf1337 (by decide))
      have hf1413 : K1357.2.2.1 16 q1282 = lp9 := (BdE.C h1376 (by rw [hf1337]; decide) 16).trans hf1338
      have hO : OKP G h0 a (upd (upd (upd (upd (upd (upd (upd (upd (upd (upd F 2 (nI sz)) 5 (nI cs1359)) 6 (nI rg1368)) 7 (nI hd1364)) 8 (nI dp1365)) 12 (nI vr1363)) 13 as1360) 14 wt1361) 15 wf1362) 16 ls1370) (updR (updR (updR R 2 (.ref pq)) 3 (.ref mq)) 4 (.ref q1282)) Z B1358 J K1357 w := hO.to rfl
      refine W.widen (k := (1 + (rE (g 2 q4) - rS (g 2 q4)))) (n := (6 + (6 * (rE (g 2 q4) - rS (g 2 q4))))) (by show 1 + (rE (g 2 q4) - rS (g 2 q4)) ≤ (1 + (rE (g 2 q4) - rS (g 2 q4))); omega) (by show 6 + (6 * (rE (g 2 q4) - rS (g 2 q4))) ≤ (6 + (6 * (rE (g 2 q4) - rS (g 2 q4)))); omega) ?_
      refine W.eq (g2 := F0 m 100 ls []) rfl ?_
      have hbe1414 := BdE.trans hbe1319 h1376
      have hbb1415 : Bth B B1358 := Bth.trans (show Thx (upd (upd (upd (upd (upd (upd (upd (upd F 2 (nI sz)) 5 (nI cs)) 6 (nI rg)) 7 (nI hd)) 8 (nI dp)) 12 (nI vr)) 13 as9) 16 ls9) (upd (upd (upd (upd (upd (upd (upd (upd (upd (upd (upd (upd (upd (upd (upd F 2 (nI sz)) 5 (nI cs)) 6 (nI rg)) 7 (nI hd)) 8 (nI dp)) 12 (nI vr)) 13 as9) 16 ls9) 5 (nI cs1221)) 7 (nI hd1143)) 8 (nI dp1144)) 12 (nI vr1142)) 13 wt1223) 14 wt1223) 15 wf1224) B B1220 from (Thx.f (Thx.f (Thx.f (Thx.f (Thx.f (Thx.f (Thx.f (Bth.thx hbb1259) (by omega)) (by omega)) (by omega)) (by omega)) (by omega)) (by omega)) (by omega))).2 h1379
      have hng1416 : Nng (B1358 18) := h1379.2 hng1260
      have hsw1417 : ∀ x9 : Nat, x9 < cs → (B1358 16) x9 = B 16 x9 := fun x9 hx9 => ((h1375 x9 (by omega)).1).trans (hsw1261 x9 hx9)
      have hsw1418 : ∀ x9 : Nat, x9 < cs → (B1358 17) x9 = B 17 x9 := fun x9 hx9 => ((h1375 x9 (by omega)).2.1).trans (hsw1262 x9 hx9)
      have hsw1419 : ∀ x9 : Nat, x9 < cs → (B1358 18) x9 = B 18 x9 := fun x9 hx9 => ((h1375 x9 (by omega)).2.2.1).trans (hsw1263 x9 hx9)
      have hsw1420 : ∀ x9 : Nat, x9 < cs → (B1358 19) x9 = B 19 x9 := fun x9 hx9 => ((h1375 x9 (by omega)).2.2.2).trans (hsw1264 x9 hx9)
      have hsx1421 : ∀ x9 : Nat, x9 < cs1138 → (B1358 16) x9 = (B1137 16) x9 := fun x9 hx9 => ((h1375 x9 (by omega)).1).trans (hsx1265 x9 hx9)
      have hsx1422 : ∀ x9 : Nat, x9 < cs1138 → (B1358 17) x9 = (B1137 17) x9 := fun x9 hx9 => ((h1375 x9 (by omega)).2.1).trans (hsx1266 x9 hx9)
      have hsx1423 : ∀ x9 : Nat, x9 < cs1138 → (B1358 18) x9 = (B1137 18) x9 := fun x9 hx9 => ((h1375 x9 (by omega)).2.2.1).trans (hsx1267 x9 hx9)
      have hsx1424 : ∀ x9 : Nat, x9 < cs1138 → (B1358 19) x9 = (B1137 19) x9 := fun x9 hx9 => ((h1375 x9 (by omega)).2.2.2).trans (hsx1268 x9 hx9)
      have hbf1425 := BeF.trans hbf1341 h1377 hbe1319
      have hbl1427 : BeL K K1357 lp9 := BeL.new hbl1342 hbe1319 hinn h1378
      have hbr1426 : BtR B B1358 := BtR.trans hbr1270 h1380
      have hvs1428 : VrS B B1358 vr := VrS.trans hvs1272 h1385 (by omega)
      have hvF1429 : VrS B1137 B1358 vr1142 := VrS.trans hvF1273 h1385 (by omega)
      have hst1430 : StW pb.1 pb.2.1 pb.2.2.1 pb.2.2.2 Ag1145 Ag1366 Q9 Q1371 pd pd1372 m9 dp1365 lw cs1138 cs1359 as1139 as1360 hd1143 hd1364 sl1146 sl1367 gr gr1369 (B1358 16) (B1358 17) (B1358 18) (B1358 19) ([] : List Nat) := StW.seq hst1276 (by omega) (fun x9 hx9 => ⟨(h1375 x9 hx9).1, (h1375 x9 hx9).2.1⟩) h1390
      have hsn1431 := hst1430.1.2.2.2.1
      have hj1432 : (B1358 16) cs1138 = (nI 0) := ((h1375 cs1138 (by omega)).1).trans hj1277
      have hj1433 : Ag1366 cs1138 = (rcA as1139, hd1143, sl1146, ([] : List Nat)) := (h1390.2.2.1 cs1138 (by omega)).trans hj1278
      have hex1434 : ExJ (B1358 16) (B1358 17) Ag1366 x1225 ex1228 lw (cs1138 + 1) cs1221 hd1143 sl1146 wt1223 wf1224 := ExJ.same h1239 (fun z8 hz8 => ⟨(h1375 z8 (by omega)).1, (h1375 z8 (by omega)).2.1⟩) (fun z8 hz8 => h1390.2.2.1 z8 (by omega))
      have hbk1435 : BeL K1136 K1357 (some q1282) := BeL.trans hbk1350 h1378 hbj1348
      have hbj1436 : BdE K1136 K1357 := BdE.trans hbj1348 h1376
      have hlr1437 : LpR K1357 lp9 rL := LpR.same hlr1349 (fun lq9 e9 f9 _ _ => h1378 lq9 (LpO.be hbe1319 hlo lq9 e9) (fun z => by have y9 := hlo lq9 e9; have v9 := Option.some.inj z; rw [← v9, hinn] at y9; exact absurd y9 (by decide)) f9)
      have hnlhd1364 : hd1364 = hd1143 := h1387 (by rw [BdE.I hbe1319 (by rw [hsd2.1]; decide) (by decide) (by decide)]; exact hsd2.2)
      obtain rfl : vr1142 = vr1363 := by omega
      obtain rfl : hd1143 = hd1364 := hnlhd1364.symm
      have h1375 : SmW B1220 B1358 cs1221 := h1375
      have h1376 : BdE K1316 K1357 := h1376
      have h1377 : BeF K1316 K1357 := h1377
      have h1378 : BeL K1316 K1357 (some q1282) := h1378
      have h1379 : Bth B1220 B1358 := h1379
      have h1380 : BtR B1220 B1358 := h1380
      have h1381 : cs1221 ≤ cs1359 ∧ cs1359 + 0 ≤ cs1221 + 2 * tlE g q4 := h1381
      have h1382 : dp1144 ≤ dp1365 ∧ dp1365 ≤ 71 := h1382
      have h1383 : vr1142 ≤ vr1142 ∧ vr1142 ≤ 30 ∧ hd1143 + vr1142 = hd1143 + vr1142 := h1383
      have h1384 : AsO as1360 := h1384
      have h1385 : VrS B1220 B1358 vr1142 := h1385
      have h1386 : cs1221 < cs1359 ∨ (hd1143 = hd1143 ∧ sl1367 = sl1146) := h1386
      have h1387 : ¬ K1316.2.1 0 q4 = 22 → hd1143 = hd1143 := h1387
      have h1388 : gr ≤ gr1369 ∧ rg1368 ≤ 625 ∧ rg1368 ≤ gr1369 ∧ (rg1368 = 625 ∨ rg1368 = gr1369) := h1388
      have h1389 : EnV (B1358 26) (B1358 27) nd vr1142 hd1143 c0 sl1367 := h1389
      have h1390 : StW pb.1 pb.2.1 pb.2.2.1 pb.2.2.2 Ag1226 Ag1366 Q9 Q1371 pd1227 pd1372 m9 dp1365 lw cs1221 cs1359 wt1223 as1360 hd1143 hd1143 sl1146 sl1367 gr gr1369 (B1358 16) (B1358 17) (B1358 18) (B1358 19) [] := h1390
      have h1391 : LpS K1357 (B1358 16) (B1358 17) Ag1366 pd1372 (some q1282) lw cs1359 hd1143 sl1367 hd1143 sl1146 xb1373 xc1374 := h1391
      have h1392 : PdS pd1227 pd1372 ([] : List Nat) xb1373 ([] : List Nat) xc1374 [] cs1221 cs1359 := h1392
      have h1393 : RgQx B1358 Q1371 gr1369 nd := h1393
      have h1394 : LpR K1357 (some q1282) (¬ as1139 = -1) := h1394
      have hlpi := h1391
      obtain ⟨hi1, hi2, hi3, hi4, hi5, hi6, hi7, hi8, hi9, hi10⟩ := LpS.c hlpi
      have hidis := (hlpi.2.2 q1282 rfl).2
      have hpdi := h1392
      have hlri := h1394 q1282 rfl
      obtain ⟨bv, hbv⟩ : ∃ z : Int32, K1357.2.1 27 q1282 = z := ⟨_, rfl⟩
      obtain ⟨cv, hcv⟩ : ∃ z : Int32, K1357.2.1 28 q1282 = z := ⟨_, rfl⟩
      obtain ⟨bsv, hbsv⟩ : ∃ z : Int32, K1357.2.1 29 q1282 = z := ⟨_, rfl⟩
      obtain ⟨csv, hcsv⟩ : ∃ z : Int32, K1357.2.1 30 q1282 = z := ⟨_, rfl⟩
      rw [hbv] at hi1
      rw [hcv] at hi2
      rw [hbsv] at hi3 hi5 hlri
      rw [hcsv] at hi4 hi6 hlri
      have hgeb : ∀ z9 : Nat, z9 ∈ xb1373 → cs1221 ≤ z9 := fun z9 hz9 => (hpdi.2.2.2.2.1 z9 hz9).resolve_left (List.not_mem_nil)
      have hgec : ∀ z9 : Nat, z9 ∈ xc1374 → cs1221 ≤ z9 := fun z9 hz9 => (hpdi.2.2.2.2.2.1 z9 hz9).resolve_left (List.not_mem_nil)
      have hbrq : BrJ (B1358 16) (B1358 17) Ag1366 bv bsv xb1373 lw cs1359 hd1143 sl1146 := ⟨hi1, hi3⟩
      refine lv_aload_n hx hb dX0_loopStatement_100 rfl (lv_at hl 5 rfl) ?_
      refine c_get (v := .ref (a 2)) (C := RX0) (Tc := TX0) (N := 13) (ci := 0) hx hb hq pin_wsX00 hown hE hP hO 24 (sg_24 G h0 a _ _ _ _ _) rfl 1 (by decide) (hq _ pw_5) (fun _ h9 => h9) rfl dX0_loopStatement_101 ?_
      refine lv_aload_n hx hb dX0_loopStatement_104 rfl (lv_at hl 5 rfl) ?_
      refine c_get (v := .ref q1282) (C := RX0) (Tc := TX0) (N := 13) (ci := 0) hx hb hq pin_wsX00 hown hE hP hO 24 (sg_24 G h0 a _ _ _ _ _) rfl 11 (by decide) (hq _ pw_73) (fun _ h9 => h9) rfl dX0_loopStatement_105 ?_
      refine p_get (v := .int cv) (C := RX4) (Tc := TX4) (N := 6) (ci := 11) hx hb hq pin_wsX40 hown hE hP hO (by rw [hf1412]; decide) (rep_9 hf1412) rfl 3 (by decide) (hq _ pw_284) (fun _ h9 => h9) (congrArg (fun z => some (Value.int z)) hcv) dX0_loopStatement_108 ?_
      have hao1438 := AsO.and h1384 hi6
      have hO : OKW G h0 a (upd (upd (upd (upd (upd (upd (upd (upd (upd (upd (upd F 2 (nI sz)) 5 (nI cs1359)) 6 (nI rg1368)) 7 (nI hd1143)) 8 (nI dp1365)) 12 (nI vr1142)) 13 as1360) 14 wt1361) 15 wf1362) 16 ls1370) 5 (nI cs1359)) (updR (updR (updR R 2 (.ref pq)) 3 (.ref mq)) 4 (.ref q1282)) Z B1358 J K1357.1 (fun q99 x99 => x99 = rep G a K1357 q99) w := hO.to rfl
      obtain ⟨_, qr1442, hqr1443⟩ := hO.2.1 13 _ (sg_13 G h0 a _ _ _ _ _)
      refine pc_V0 (G := G) (As := [.int cv]) (rest := []) hx hb hml hown hq hE hX pX0_al hP hD hS hA hl.1 (Y_land l G h0 a (upd (upd (upd (upd (upd (upd (upd (upd (upd (upd F 2 (nI sz)) 5 (nI cs1359)) 6 (nI rg1368)) 7 (nI hd1143)) 8 (nI dp1365)) 12 (nI vr1142)) 13 as1360) 14 wt1361) 15 wf1362) 16 ls1370) (updR (updR (updR R 2 (.ref pq)) 3 (.ref mq)) 4 (.ref q1282)) Z B1358 J K1357.1 (fun q99 x99 => x99 = rep G a K1357 q99) w cv cs1359 xc1374 (by omega) hi2 (fun y9 hy9 => (hi4 y9 hy9).2.1) hO) (gV pw_200 pw_201 pw_202 pw_70 pw_134) hV_X1_land qr1442 1 hqr1443 rfl rfl rfl (Nat.le_of_ble_eq_true rfl) dX0_loopStatement_111 ⟨(by show (1 + (rE (g 2 q4) - rS (g 2 q4))) + 0 ≤ ((rE (g 2 q) - rS (g 2 q)) + 1); omega), (by show (6 + (6 * (rE (g 2 q4) - rS (g 2 q4)))) + 0 ≤ (6 * (rE (g 2 q) - rS (g 2 q)) + 6); omega)⟩ ⟨(by show 2 + 1 ≤ (5 * n + 46); omega), (by show 8 + (5 + 11) + 60 ≤ (200 * n + 1120); omega)⟩ (fun v1441 u1439 H locs hw1440 hP hD hS => ?_)
      obtain ⟨w, _⟩ := u1439
      obtain ⟨hw1440, hO⟩ := hw1440
      obtain rfl : v1441 = none := hw1440
      have hO : OKP G h0 a (upd (upd (upd (upd (upd (upd (upd (upd (upd (upd F 2 (nI sz)) 5 (nI cs1359)) 6 (nI rg1368)) 7 (nI hd1143)) 8 (nI dp1365)) 12 (nI vr1142)) 13 as1360) 14 wt1361) 15 wf1362) 16 ls1370) (updR (updR (updR R 2 (.ref pq)) 3 (.ref mq)) 4 (.ref q1282)) Z (updA B1358 17 (aim ((B1358 17)) xc1374 cs1359)) J K1357 w := hO.to rfl
      refine W.widen (k := (1 + (rE (g 2 q4) - rS (g 2 q4)))) (n := (6 + (6 * (rE (g 2 q4) - rS (g 2 q4))))) (by show (1 + (rE (g 2 q4) - rS (g 2 q4))) + 0 ≤ (1 + (rE (g 2 q4) - rS (g 2 q4))); omega) (by show (6 + (6 * (rE (g 2 q4) - rS (g 2 q4)))) + 0 ≤ (6 + (6 * (rE (g 2 q4) - rS (g 2 q4)))); omega) ?_
      refine W.eq (g2 := F0 m 114 ls []) rfl ?_
      have hsw1444 : ∀ x9 : Nat, x9 < cs → (aim ((B1358 17)) xc1374 cs1359) x9 = B 17 x9 := fun x9 hx9 => (aim_no (fun q9 => by have e9 := hgec x9 q9; omega)).trans (hsw1418 x9 hx9)
      have hsx1445 : ∀ x9 : Nat, x9 < cs1138 → (aim ((B1358 17)) xc1374 cs1359) x9 = (B1137 17) x9 := fun x9 hx9 => (aim_no (fun q9 => by have e9 := hgec x9 q9; omega)).trans (hsx1422 x9 hx9)
      obtain ⟨Ag1446, hst1447, hag1448⟩ : ∃ A5 : Nat → AS, StW pb.1 pb.2.1 pb.2.2.1 pb.2.2.2 Ag1145 A5 Q9 Q1371 pd (pdm pd1372 xc1374) m9 dp1365 lw cs1138 cs1359 as1139 (as1360 &&& csv) hd1143 hd1143 sl1146 sl1146 gr gr1369 (B1358 16) (aim ((B1358 17)) xc1374 cs1359) (B1358 18) (B1358 19) ([] : List Nat) ∧ ∀ x9 : Nat, x9 < cs1359 → A5 x9 = Ag1366 x9 := ⟨(upS Ag1366 cs1359 (rcA (as1360 &&& csv), hd1143, sl1146, ([] : List Nat))), StW.lnd (bs := csv) hst1430 hi8 hi4 (fun z9 => and_n2 z9) (fun z9 => and_n1 z9) (fun z9 hz9 => by have y9 := hgec z9 hz9; omega) ⟨by omega, by omega⟩ (fun z9 e9 => z9 (and_m1.mpr ⟨Classical.byContradiction fun y9 => hst1430.2.2.2.2.2.1 y9 e9, Classical.byContradiction fun y9 => hlri.2 y9 e9⟩)) hwfF (by omega), fun x9 hx9 => upS_ne (by omega)⟩
      have hen1449 := EnV.back h1159 hvF1429
      have hj1450 : (B1358 16) cs1138 = (nI 0) := (rfl).trans hj1432
      have hj1451 : Ag1446 cs1138 = (rcA as1139, hd1143, sl1146, ([] : List Nat)) := (hag1448 cs1138 (by omega)).trans hj1433
      have hex1452 : ExJ (B1358 16) (aim ((B1358 17)) xc1374 cs1359) Ag1446 x1225 ex1228 lw (cs1138 + 1) cs1221 hd1143 sl1146 wt1223 wf1224 := ExJ.land hex1434 (fun z8 hz8 => ⟨rfl, aim_no (fun q9 => by have e9 := hgec z8 q9; omega)⟩) (by omega) hag1448 hst1447.1.1.2 hst1430.1.1.2 (fun z9 => and_n1 z9)
      have hbq1453 : BrJ (B1358 16) (aim ((B1358 17)) xc1374 cs1359) Ag1446 bv bsv xb1373 lw cs1359 hd1143 sl1146 := BrJ.same hbrq (fun z9 hz9 => by have y9 := BrJ.lt hbrq z9 hz9; have y8 := hgeb z9 hz9; exact ⟨rfl, aim_no (fun q9 => by have e9 := (absurd q9 (hidis z9 hz9) : (0 : Nat) = 1); omega), hag1448 z9 (by omega)⟩) (by omega)
      refine lv_aload_n hx hb dX0_loopStatement_114 rfl (lv_at hl 6 rfl) ?_
      refine p_get (v := .ref z3) (C := RX7) (Tc := TX7) (N := 11) (ci := 13) hx hb hq pin_wsX70 hown hE hP hO (by rw [hf1402]; decide) (rep_1 hf1402) rfl 8 (by decide) (hq _ pw_196) (fun _ h9 => h9) (congrArg (fun z => some (va_rf z)) hf1410) dX0_loopStatement_115 ?_
      refine lv_ifnull hx hb dX0_loopStatement_118 ?_
      refine lv_aload_n hx hb dX0_loopStatement_121 rfl (lv_at hl 5 rfl) ?_
      refine lv_dup hx hb dX0_loopStatement_122 rfl ?_
      refine c_get (v := .int as1360) (C := RX0) (Tc := TX0) (N := 13) (ci := 0) hx hb hq pin_wsX00 hown hE hP hO 24 (sg_24 G h0 a _ _ _ _ _) rfl 8 (by decide) (hq _ pw_55) (fun _ h9 => h9) rfl dX0_loopStatement_123 ?_
      refine lv_aload_n hx hb dX0_loopStatement_126 rfl (lv_at hl 5 rfl) ?_
      refine c_get (v := .ref q1282) (C := RX0) (Tc := TX0) (N := 13) (ci := 0) hx hb hq pin_wsX00 hown hE hP hO 24 (sg_24 G h0 a _ _ _ _ _) rfl 11 (by decide) (hq _ pw_73) (fun _ h9 => h9) rfl dX0_loopStatement_127 ?_
      refine p_get (v := .int csv) (C := RX4) (Tc := TX4) (N := 6) (ci := 11) hx hb hq pin_wsX40 hown hE hP hO (by rw [hf1412]; decide) (rep_9 hf1412) rfl 5 (by decide) (hq _ pw_285) (fun _ h9 => h9) (congrArg (fun z => some (Value.int z)) hcsv) dX0_loopStatement_130 ?_
      refine lv_iand hx hb dX0_loopStatement_133 ?_
      refine lv_topi (fun x1454 e1455 => ?_)
      obtain rfl : x1454 = (as1360 &&& csv) := e1455
      refine c_put (v := .int (as1360 &&& csv)) (ty := .int) (C := RX0) (Tc := TX0) (N := 13) (ci := 0) hx hb hq pin_wsX00 tyX0 tyX0_ok nmX0 hown hE hP hD hS hO 24 (sg_24 G h0 a _ _ _ _ _) rfl 8 (by decide) (hq _ pw_55) (fun _ h9 => h9) rfl (by decide +kernel) rfl rfl (Nat.le_of_ble_eq_true rfl) (sf_13 G h0 a _ _ _ _ _ (as1360 &&& csv)) dX0_loopStatement_134 (fun H locs w hP hD hS hO => ?_)
      refine lv_aload_n hx hb dX0_loopStatement_137 rfl (lv_at hl 5 rfl) ?_
      refine lv_aload_n hx hb dX0_loopStatement_138 rfl (lv_at hl 6 rfl) ?_
      refine p_get (v := .ref z3) (C := RX7) (Tc := TX7) (N := 11) (ci := 13) hx hb hq pin_wsX70 hown hE hP hO (by rw [hf1402]; decide) (rep_1 hf1402) rfl 8 (by decide) (hq _ pw_196) (fun _ h9 => h9) (congrArg (fun z => some (va_rf z)) hf1410) dX0_loopStatement_139 ?_
      refine lv_iconst (v := 0) hx hb dX0_loopStatement_142 (by decide) ?_
      have htl1456 : tlE g z3 = rE (g 2 z3) - rS (g 2 z3) := rfl
      have hO : OKP G h0 a (upd (upd (upd (upd (upd (upd (upd (upd (upd (upd (upd (upd (upd (upd (upd (upd (upd (upd (upd (upd (upd (upd (upd (upd (upd F 2 (nI sz)) 5 (nI cs)) 6 (nI rg)) 7 (nI hd)) 8 (nI dp)) 12 (nI vr)) 13 as9) 16 ls9) 5 (nI cs1359)) 6 (nI rg1368)) 7 (nI hd1143)) 8 (nI dp1365)) 12 (nI vr1142)) 13 (as1360 &&& csv)) 14 wt1361) 15 wf1362) 16 ls1370) 2 (nI sz)) 5 (nI cs1359)) 6 (nI rg1368)) 7 (nI hd1143)) 8 (nI dp1365)) 12 (nI vr1142)) 13 (as1360 &&& csv)) 16 ls1370) (updR (updR (updR (updR (updR (updR R 2 (.ref pq)) 3 (.ref mq)) 4 (.ref q1282)) 2 (.ref pq)) 3 (.ref mq)) 4 (va_rf (some q1282))) Z (updA B1358 17 (aim ((B1358 17)) xc1374 cs1359)) J K1357 w := hO.to rfl
      obtain ⟨_, qr1460, hqr1461⟩ := hO.2.1 24 _ (sg_24 G h0 a _ _ _ _ _)
      refine pn_V0 (G := G) (As := [.ref z3, .int 0]) (rest := []) hx hb hml hown hq hE hX pX0_al hP hD hS hA hl.1 (Y_stS l G h0 a (upd (upd (upd (upd (upd (upd (upd (upd (upd (upd (upd (upd (upd (upd (upd (upd (upd F 2 (nI sz)) 5 (nI cs)) 6 (nI rg)) 7 (nI hd)) 8 (nI dp)) 12 (nI vr)) 13 as9) 16 ls9) 5 (nI cs1359)) 6 (nI rg1368)) 7 (nI hd1143)) 8 (nI dp1365)) 12 (nI vr1142)) 13 (as1360 &&& csv)) 14 wt1361) 15 wf1362) 16 ls1370) (updR (updR (updR R 2 (.ref pq)) 3 (.ref mq)) 4 (.ref q1282)) Z (updA B1358 17 (aim ((B1358 17)) xc1374 cs1359)) J K1357 w pq dr ml nd nm cp it s9 z3 mq cs1359 vr1142 sz (n - 1) hd1143 dp1365 rg1368 ls1370 (some q1282) g rk pb Ag1446 Q1371 (pdm pd1372 xc1374) sl1146 m9 lw c0 rt gr1369 (as1360 &&& csv) (by omega) (BdE.wp hbe1414 hwp) (BdE.pt hbe1414 hwp hps) (BdE.rko hbe1414 hrk) (by omega) (by omega) hng1416 hf1403 hf1411 ⟨hz2v.1, (by have z9 := hz2v; omega)⟩ hf1404 hrv (by omega) (by omega) (by omega) (fun x9 h9 => by cases h9; exact hf1412) (EkA.be hbe1414 ((BtR.up hbr1426 (by omega)) 7 (by decide)) ((BtR.up hbr1426 (by omega)) 11 (by decide)) hek) (OwC.be hbe1414 hmq hdr0 hcO) (NaB.be hbe1414 hbf1425 hwp hps.2.1 hdr0 ((BtR.up hbr1426 (by omega)) 11 (by decide)) hna) hen1449 hao1438 hst1447.1 (by omega) (SkA.be hbe1414 ((BtR.up hbr1426 (by omega)) 11 (by decide)) hsk) (by rw [BdE.I hbe1414 (by rw [hsdC.1]; decide) (by decide) (by decide)]; exact Or.inr hsdC.2) hO hl0) (gV pw_300 pw_301 pw_302 pw_63 pw_323) hV_X0_statement qr1460 0 hqr1461 rfl rfl rfl (Nat.le_of_ble_eq_true rfl) dX0_loopStatement_143 ⟨(by show (1 + (rE (g 2 q4) - rS (g 2 q4))) + 1 ≤ ((rE (g 2 q) - rS (g 2 q)) + 1); omega), (by show (6 + (6 * (rE (g 2 q4) - rS (g 2 q4)))) + 6 ≤ (6 * (rE (g 2 q) - rS (g 2 q)) + 6); omega)⟩ ⟨(by show (5 * (n - 1) + 50) + 1 ≤ (5 * n + 46); omega), (by show 8 + (3 + 11) + (200 * (n - 1) + 1200) ≤ (200 * n + 1120); omega)⟩ (fun v1459 u1457 H locs hw1458 hP hD hS => ?_) (fun ux ce9 q9 H9 locs9 hux hP9 hD9 hS9 hce hcv hcl => pb_out ux (ThQ.up (Thx.same (Thx.same (Thx.same (Thx.same (Thx.same (Thx.same (Thx.same (Thx.same (Thx.b (Thx.f (Thx.f (Thx.f (Thx.f (Thx.f (Thx.f (Thx.f (Thx.f (Thx.f (Bth.thx hbb1415) (by omega)) (by omega)) (by omega)) (by omega)) (by omega)) (by omega)) (by omega)) (by omega)) (by omega)) (by omega) (by decide)) rfl) rfl) rfl) rfl) rfl) rfl) rfl) rfl) (show RhX (updR (updR (updR R 2 (.ref pq)) 3 (.ref mq)) 4 (va_rf lp9)) (updR (updR (updR (updR (updR (updR R 2 (.ref pq)) 3 (.ref mq)) 4 (.ref q1282)) 2 (.ref pq)) 3 (.ref mq)) 4 (va_rf (some q1282))) from fun k9 hk9 => by unfold updR; simp only [show ¬ k9 = 1 by omega, show ¬ k9 = 2 by omega, show ¬ k9 = 3 by omega, show ¬ k9 = 4 by omega, if_false]) hux) hnt hlocks hce hcv hcl hP9 hD9 hS9 (by show (1 + (rE (g 2 q4) - rS (g 2 q4))) + 1 ≤ ((rE (g 2 q) - rS (g 2 q)) + 1); omega) (by show (6 + (6 * (rE (g 2 q4) - rS (g 2 q4)))) + 6 ≤ (6 * (rE (g 2 q) - rS (g 2 q)) + 6); omega))
      obtain ⟨w, K1462, B1463, cs1464, as1465, wt1466, wf1467, vr1468, hd1469, dp1470, Ag1471, sl1472⟩ := u1457
      obtain ⟨hw1458, h1473, h1474, h1475, h1476, h1477, h1478, h1479, h1480, h1481, h1482, h1483, h1484, h1485, h1486, hO⟩ := hw1458
      have h1473 : SmW (updA B1358 17 (aim ((B1358 17)) xc1374 cs1359)) B1463 cs1359 := h1473
      have h1474 : BdE K1357 K1462 := h1474
      have h1475 : BeF K1357 K1462 := h1475
      have h1476 : BeL K1357 K1462 none := h1476
      have h1477 : Bth (updA B1358 17 (aim ((B1358 17)) xc1374 cs1359)) B1463 := h1477
      have h1478 : BsR (updA B1358 17 (aim ((B1358 17)) xc1374 cs1359)) B1463 := h1478
      have h1479 : cs1359 ≤ cs1464 ∧ cs1464 + 1 ≤ cs1359 + 2 * tlE g z3 := h1479
      have h1480 : dp1365 ≤ dp1470 ∧ dp1470 ≤ 71 := h1480
      have h1481 : vr1142 ≤ vr1468 ∧ vr1468 ≤ 30 ∧ hd1469 + vr1142 = hd1143 + vr1468 := h1481
      have h1482 : AsO as1465 := h1482
      have h1483 : VrS (updA B1358 17 (aim ((B1358 17)) xc1374 cs1359)) B1463 vr1142 := h1483
      have h1484 : cs1359 < cs1464 := h1484
      have h1485 : EnV (B1463 26) (B1463 27) nd vr1468 hd1469 c0 sl1472 := h1485
      have h1486 : StW pb.1 pb.2.1 pb.2.2.1 pb.2.2.2 Ag1446 Ag1471 Q1371 Q1371 (pdm pd1372 xc1374) (pdm pd1372 xc1374) m9 dp1470 lw cs1359 cs1464 (as1360 &&& csv) as1465 hd1143 hd1469 sl1146 sl1472 gr1369 gr1369 (B1463 16) (B1463 17) (B1463 18) (B1463 19) [] := h1486
      obtain rfl : v1459 = none := hw1458
      have hf1487 : K1462.1 pq = 7 := (BdE.T h1474 hf1395 (by decide))
      have hf1488 : K1462.2.2.1 18 pq = some (a 1) := (BdE.C h1474 (by rw [hf1395]; decide) 18).trans hf1396
      have hf1489 : K1462.2.2.1 14 pq = some dr := (BdE.C h1474 (by rw [hf1395]; decide) 14).trans hf1397
      have hf1490 : K1462.1 dr = 8 := (BdE.T h1474 hf1398 (by decide))
      have hf1491 : K1462.2.2.1 15 pq = some ml := (BdE.C h1474 (by rw [hf1395]; decide) 15).trans hf1399
      have hf1492 : K1462.1 ml = 5 := (BdE.T h1474 hf1400 (by decide))
      have hf1493 : K1462.2.1 24 pq = (nI nd) := (BdE.I h1474 (by rw [hf1395]; decide) (by decide) (by decide)).trans hf1401
      have hf1494 : K1462.1 q = 1 := (BdE.T h1474 hf1402 (by decide))
      have hf1495 : K1462.1 mq = 3 := (BdE.T h1474 hf1403 (by decide))
      have hf1496 : K1462.2.1 10 mq = (nI rt) := (BdE.I h1474 (by rw [hf1403]; decide) (by decide) (by decide)).trans hf1404
      have hf1497 : K1462.2.2.1 3 q = some q4 := (BdE.C h1474 (by rw [hf1402]; decide) 3).trans hf1405
      have hf1498 : K1462.1 q4 = 1 := (BdE.T h1474 hf1406 (by decide))
      have hf1499 : K1462.2.2.1 1 q = ob := (BdE.C h1474 (by rw [hf1402]; decide) 1).trans hf1407
      have hf1500 : K1462.2.2.1 0 q = some z1 := (BdE.C h1474 (by rw [hf1402]; decide) 0).trans hf1408
      have hf1501 : K1462.1 z1 = 1 := (BdE.T h1474 hf1409 (by decide))
      have hf1502 : K1462.2.2.1 2 q = some z3 := (BdE.C h1474 (by rw [hf1402]; decide) 2).trans hf1410
      have hf1503 : K1462.1 z3 = 1 := (BdE.T h1474 hf1411 (by decide))
      have hf1504 : K1462.1 q1282 = 9 := (BdE.T h1474 hf1412 (by decide))
      have hf1505 : K1462.2.2.1 16 q1282 = lp9 := (BdE.C h1474 (by rw [hf1412]; decide) 16).trans hf1413
      have hO : OKP G h0 a (upd (upd (upd (upd (upd (upd (upd (upd (upd (upd F 2 (nI sz)) 5 (nI cs1464)) 6 (nI rg1368)) 7 (nI hd1469)) 8 (nI dp1470)) 12 (nI vr1468)) 13 as1465) 14 wt1466) 15 wf1467) 16 ls1370) (updR (updR (updR R 2 (.ref pq)) 3 (.ref mq)) 4 (.ref q1282)) Z B1463 J K1462 w := hO.to rfl
      refine W.widen (k := (1 + (rE (g 2 q4) - rS (g 2 q4)))) (n := (6 + (6 * (rE (g 2 q4) - rS (g 2 q4))))) (by show (1 + (rE (g 2 q4) - rS (g 2 q4))) + 0 ≤ (1 + (rE (g 2 q4) - rS (g 2 q4))); omega) (by show (6 + (6 * (rE (g 2 q4) - rS (g 2 q4)))) + 0 ≤ (6 + (6 * (rE (g 2 q4) - rS (g 2 q4)))); omega) ?_
      refine W.eq (g2 := F0 m 146 ls []) rfl ?_
      have hbe1506 := BdE.trans hbe1414 h1474
      have hbb1507 : Bth B B1463 := Bth.trans (show Thx (upd (upd (upd (upd (upd (upd (upd (upd F 2 (nI sz)) 5 (nI cs)) 6 (nI rg)) 7 (nI hd)) 8 (nI dp)) 12 (nI vr)) 13 as9) 16 ls9) (upd (upd (upd (upd (upd (upd (upd (upd (upd (upd (upd (upd (upd (upd (upd (upd (upd F 2 (nI sz)) 5 (nI cs)) 6 (nI rg)) 7 (nI hd)) 8 (nI dp)) 12 (nI vr)) 13 as9) 16 ls9) 5 (nI cs1359)) 6 (nI rg1368)) 7 (nI hd1143)) 8 (nI dp1365)) 12 (nI vr1142)) 13 (as1360 &&& csv)) 14 wt1361) 15 wf1362) 16 ls1370) B (updA B1358 17 (aim ((B1358 17)) xc1374 cs1359)) from (Thx.b (Thx.f (Thx.f (Thx.f (Thx.f (Thx.f (Thx.f (Thx.f (Thx.f (Thx.f (Bth.thx hbb1415) (by omega)) (by omega)) (by omega)) (by omega)) (by omega)) (by omega)) (by omega)) (by omega)) (by omega)) (by omega) (by decide))).2 h1477
      have hng1508 : Nng (B1463 18) := h1477.2 hng1416
      have hsw1509 : ∀ x9 : Nat, x9 < cs → (B1463 16) x9 = B 16 x9 := fun x9 hx9 => ((h1473 x9 (by omega)).1).trans (hsw1417 x9 hx9)
      have hsw1510 : ∀ x9 : Nat, x9 < cs → (B1463 17) x9 = B 17 x9 := fun x9 hx9 => ((h1473 x9 (by omega)).2.1).trans (hsw1444 x9 hx9)
      have hsw1511 : ∀ x9 : Nat, x9 < cs → (B1463 18) x9 = B 18 x9 := fun x9 hx9 => ((h1473 x9 (by omega)).2.2.1).trans (hsw1419 x9 hx9)
      have hsw1512 : ∀ x9 : Nat, x9 < cs → (B1463 19) x9 = B 19 x9 := fun x9 hx9 => ((h1473 x9 (by omega)).2.2.2).trans (hsw1420 x9 hx9)
      have hsx1513 : ∀ x9 : Nat, x9 < cs1138 → (B1463 16) x9 = (B1137 16) x9 := fun x9 hx9 => ((h1473 x9 (by omega)).1).trans (hsx1421 x9 hx9)
      have hsx1514 : ∀ x9 : Nat, x9 < cs1138 → (B1463 17) x9 = (B1137 17) x9 := fun x9 hx9 => ((h1473 x9 (by omega)).2.1).trans (hsx1445 x9 hx9)
      have hsx1515 : ∀ x9 : Nat, x9 < cs1138 → (B1463 18) x9 = (B1137 18) x9 := fun x9 hx9 => ((h1473 x9 (by omega)).2.2.1).trans (hsx1423 x9 hx9)
      have hsx1516 : ∀ x9 : Nat, x9 < cs1138 → (B1463 19) x9 = (B1137 19) x9 := fun x9 hx9 => ((h1473 x9 (by omega)).2.2.2).trans (hsx1424 x9 hx9)
      have hbf1517 := BeF.trans hbf1425 h1475 hbe1414
      have hbl1519 : BeL K K1462 lp9 := BeL.trans hbl1427 (BeL.any h1476) hbe1414
      have hbr1518 : BtR B B1463 := BtR.trans (BtR.up hbr1426 (by omega)) (BsR.bt h1478)
      have hvs1520 : VrS B B1463 vr := VrS.trans hvs1428 h1483 (by omega)
      have hvF1521 : VrS B1137 B1463 vr1142 := VrS.trans hvF1429 h1483 (by omega)
      have hst1522 : StW pb.1 pb.2.1 pb.2.2.1 pb.2.2.2 Ag1145 Ag1471 Q9 Q1371 pd (pdm pd1372 xc1374) m9 dp1470 lw cs1138 cs1464 as1139 as1465 hd1143 hd1469 sl1146 sl1472 gr gr1369 (B1463 16) (B1463 17) (B1463 18) (B1463 19) ([] : List Nat) := StW.seq hst1447 (by omega) (fun x9 hx9 => ⟨(h1473 x9 hx9).1, (h1473 x9 hx9).2.1⟩) h1486
      have hsn1523 := hst1522.1.2.2.2.1
      have hrq1524 : RgQx B1463 Q1371 gr1369 nd := RgQx.ber h1393 (BsR.rg h1478 20 (by decide) (by decide)) (BsR.rg h1478 21 (by decide) (by decide)) (BsR.rg h1478 22 (by decide) (by decide)) (BsR.rg h1478 23 (by decide) (by decide)) (BsR.rg h1478 24 (by decide) (by decide))
      have hlr1525 : LpR K1462 lp9 rL := LpR.same hlr1437 (fun lq9 e9 f9 _ _ => h1476 lq9 (LpO.be hbe1414 hlo lq9 e9) (fun z => by cases z) f9)
      have hj1526 : (B1463 16) cs1138 = (nI 0) := ((h1473 cs1138 (by omega)).1).trans hj1450
      have hj1527 : Ag1471 cs1138 = (rcA as1139, hd1143, sl1146, ([] : List Nat)) := (h1486.2.2.1 cs1138 (by omega)).trans hj1451
      have hex1528 : ExJ (B1463 16) (B1463 17) Ag1471 x1225 ex1228 lw (cs1138 + 1) cs1221 hd1143 sl1146 wt1223 wf1224 := ExJ.same hex1452 (fun z8 hz8 => ⟨(h1473 z8 (by omega)).1, (h1473 z8 (by omega)).2.1⟩) (fun z8 hz8 => h1486.2.2.1 z8 (by omega))
      have hbq1529 : BrJ (B1463 16) (B1463 17) Ag1471 bv bsv xb1373 lw cs1464 hd1143 sl1146 := BrJ.same hbq1453 (fun z9 hz9 => by have y9 := BrJ.lt hbq1453 z9 hz9; have y8 := hgeb z9 hz9; exact ⟨(h1473 z9 (by omega)).1, (h1473 z9 (by omega)).2.1, h1486.2.2.1 z9 (by omega)⟩) (by omega)
      have hbk1530 : BeL K1136 K1462 (some q1282) := BeL.trans hbk1435 (BeL.any h1476) hbj1436
      have hbj1531 : BdE K1136 K1462 := BdE.trans hbj1436 h1474
      have hf1532 : K1462.2.1 27 q1282 = bv := (h1476 q1282 hf1412 (fun z => by cases z) 27).trans hbv
      have hf1533 : K1462.2.1 29 q1282 = bsv := (h1476 q1282 hf1412 (fun z => by cases z) 29).trans hbsv
      refine lv_aload_n hx hb dX0_loopStatement_146 rfl (lv_at hl 5 rfl) ?_
      refine c_get (v := .ref (a 2)) (C := RX0) (Tc := TX0) (N := 13) (ci := 0) hx hb hq pin_wsX00 hown hE hP hO 24 (sg_24 G h0 a _ _ _ _ _) rfl 1 (by decide) (hq _ pw_5) (fun _ h9 => h9) rfl dX0_loopStatement_147 ?_
      refine lv_bipush (v := 6) hx hb dX0_loopStatement_150 (by decide) ?_
      refine lv_iload hx hb dX0_loopStatement_152 (lv_at hl 2 rfl) ?_
      refine lv_iconst (v := 0) hx hb dX0_loopStatement_154 (by decide) ?_
      have hO : OKW G h0 a (upd (upd (upd (upd (upd (upd (upd (upd (upd (upd (upd (upd F 2 (nI sz)) 5 (nI cs1464)) 6 (nI rg1368)) 7 (nI hd1469)) 8 (nI dp1470)) 12 (nI vr1468)) 13 as1465) 14 wt1466) 15 wf1467) 16 ls1370) 5 (nI cs1464)) 7 (nI hd1469)) (updR (updR (updR R 2 (.ref pq)) 3 (.ref mq)) 4 (.ref q1282)) Z B1463 J K1462.1 (fun q99 x99 => x99 = rep G a K1462 q99) w := hO.to rfl
      obtain ⟨_, qr1537, hqr1538⟩ := hO.2.1 13 _ (sg_13 G h0 a _ _ _ _ _)
      refine pc_V0 (G := G) (As := [.int 6, .int (nI cs1138), .int 0]) (rest := []) hx hb hml hown hq hE hX pX0_al hP hD hS hA hl.1 (Y_emit l G h0 a (upd (upd (upd (upd (upd (upd (upd (upd (upd (upd F 2 (nI sz)) 5 (nI cs1464)) 6 (nI rg1368)) 7 (nI hd1469)) 8 (nI dp1470)) 12 (nI vr1468)) 13 as1465) 14 wt1466) 15 wf1467) 16 ls1370) (updR (updR (updR R 2 (.ref pq)) 3 (.ref mq)) 4 (.ref q1282)) Z B1463 J K1462.1 (fun q99 x99 => x99 = rep G a K1462 q99) w 6 (nI cs1138) 0 cs1464 hd1469 (by omega) hO) (gV pw_129 pw_130 pw_131 pw_70 pw_115) hV_X1_emit qr1537 1 hqr1538 rfl rfl rfl (Nat.le_of_ble_eq_true rfl) dX0_loopStatement_155 ⟨(by show (1 + (rE (g 2 q4) - rS (g 2 q4))) + 0 ≤ ((rE (g 2 q) - rS (g 2 q)) + 1); omega), (by show (6 + (6 * (rE (g 2 q4) - rS (g 2 q4)))) + 0 ≤ (6 * (rE (g 2 q) - rS (g 2 q)) + 6); omega)⟩ ⟨(by show 2 + 1 ≤ (5 * n + 46); omega), (by show 8 + (4 + 11) + 60 ≤ (200 * n + 1120); omega)⟩ (fun v1536 u1534 H locs hw1535 hP hD hS => ?_)
      obtain ⟨w, _⟩ := u1534
      obtain ⟨hw1535, hO⟩ := hw1535
      obtain rfl : v1536 = none := hw1535
      have hO : OKP G h0 a (upd (upd (upd (upd (upd (upd (upd (upd (upd (upd F 2 (nI sz)) 5 (nI (cs1464 + 1))) 6 (nI rg1368)) 7 (nI hd1469)) 8 (nI dp1470)) 12 (nI vr1468)) 13 as1465) 14 wt1466) 15 wf1467) 16 ls1370) (updR (updR (updR R 2 (.ref pq)) 3 (.ref mq)) 4 (.ref q1282)) Z (updA (updA (updA (updA B1463 16 (upd ((B1463 16)) cs1464 6)) 17 (upd ((B1463 17)) cs1464 (nI cs1138))) 18 (upd ((B1463 18)) cs1464 0)) 19 (upd ((B1463 19)) cs1464 (nI hd1469))) J K1462 w := hO.to rfl
      refine W.widen (k := (1 + (rE (g 2 q4) - rS (g 2 q4)))) (n := (6 + (6 * (rE (g 2 q4) - rS (g 2 q4))))) (by show (1 + (rE (g 2 q4) - rS (g 2 q4))) + 0 ≤ (1 + (rE (g 2 q4) - rS (g 2 q4))); omega) (by show (6 + (6 * (rE (g 2 q4) - rS (g 2 q4)))) + 0 ≤ (6 + (6 * (rE (g 2 q4) - rS (g 2 q4)))); omega) ?_
      refine W.eq (g2 := F0 m 158 ls []) rfl ?_
      have hsw1539 : ∀ x9 : Nat, x9 < cs → (upd ((B1463 16)) cs1464 6) x9 = B 16 x9 := fun x9 hx9 => (if_neg (by omega)).trans (hsw1509 x9 hx9)
      have hsw1540 : ∀ x9 : Nat, x9 < cs → (upd ((B1463 17)) cs1464 (nI cs1138)) x9 = B 17 x9 := fun x9 hx9 => (if_neg (by omega)).trans (hsw1510 x9 hx9)
      have hsw1541 : ∀ x9 : Nat, x9 < cs → (upd ((B1463 18)) cs1464 0) x9 = B 18 x9 := fun x9 hx9 => (if_neg (by omega)).trans (hsw1511 x9 hx9)
      have hsw1542 : ∀ x9 : Nat, x9 < cs → (upd ((B1463 19)) cs1464 (nI hd1469)) x9 = B 19 x9 := fun x9 hx9 => (if_neg (by omega)).trans (hsw1512 x9 hx9)
      have hsx1543 : ∀ x9 : Nat, x9 < cs1138 → (upd ((B1463 16)) cs1464 6) x9 = (B1137 16) x9 := fun x9 hx9 => (if_neg (by omega)).trans (hsx1513 x9 hx9)
      have hsx1544 : ∀ x9 : Nat, x9 < cs1138 → (upd ((B1463 17)) cs1464 (nI cs1138)) x9 = (B1137 17) x9 := fun x9 hx9 => (if_neg (by omega)).trans (hsx1514 x9 hx9)
      have hsx1545 : ∀ x9 : Nat, x9 < cs1138 → (upd ((B1463 18)) cs1464 0) x9 = (B1137 18) x9 := fun x9 hx9 => (if_neg (by omega)).trans (hsx1515 x9 hx9)
      have hsx1546 : ∀ x9 : Nat, x9 < cs1138 → (upd ((B1463 19)) cs1464 (nI hd1469)) x9 = (B1137 19) x9 := fun x9 hx9 => (if_neg (by omega)).trans (hsx1516 x9 hx9)
      obtain ⟨Ag1547, hst1548, hag1549⟩ : ∃ A5 : Nat → AS, StW pb.1 pb.2.1 pb.2.2.1 pb.2.2.2 Ag1145 A5 Q9 Q1371 pd (pdm pd1372 xc1374) m9 dp1470 lw cs1138 (cs1464 + 1) as1139 (-1) hd1143 hd1469 sl1146 sl1472 gr gr1369 (upd ((B1463 16)) cs1464 6) (upd ((B1463 17)) cs1464 (nI cs1138)) (upd ((B1463 18)) cs1464 0) (upd ((B1463 19)) cs1464 (nI hd1469)) ([] : List Nat) ∧ ∀ x9 : Nat, x9 ≤ cs1464 → A5 x9 = Ag1471 x9 := ⟨(upS Ag1471 (cs1464 + 1) (rcA (-1), hd1469, sl1472, ([] : List Nat))), StW.back hst1522 ⟨by omega, by omega⟩ hj1526 (fun z9 => by rw [hj1527]; exact ⟨rcA_1 (hst1522.2.2.2.2.2.1 z9), hst1522.2.2.2.2.2.2.1.1, fun s9 hs9 => (hst1522.2.2.2.2.2.2.1.2 s9 hs9).symm, trivial⟩), fun x9 hx9 => upS_ne (by omega)⟩
      have hng1550 : Nng (upd ((B1463 18)) cs1464 0) := Nng.set hng1508 (k := 0) (by omega)
      have hj1551 : (upd ((B1463 16)) cs1464 6) cs1138 = (nI 0) := (if_neg (by omega)).trans hj1526
      have hj1552 : Ag1547 cs1138 = (rcA as1139, hd1143, sl1146, ([] : List Nat)) := (hag1549 cs1138 (by omega)).trans hj1527
      have hex1553 : ExJ (upd ((B1463 16)) cs1464 6) (upd ((B1463 17)) cs1464 (nI cs1138)) Ag1547 x1225 ex1228 lw (cs1138 + 1) cs1221 hd1143 sl1146 wt1223 wf1224 := ExJ.same hex1528 (fun z8 hz8 => ⟨if_neg (by omega), if_neg (by omega)⟩) (fun z8 hz8 => hag1549 z8 (by omega))
      have hbq1554 : BrJ (upd ((B1463 16)) cs1464 6) (upd ((B1463 17)) cs1464 (nI cs1138)) Ag1547 bv bsv xb1373 lw (cs1464 + 1) hd1143 sl1146 := BrJ.same hbq1529 (fun z9 hz9 => by have y9 := BrJ.lt hbq1529 z9 hz9; have y8 := hgeb z9 hz9; exact ⟨if_neg (by omega), if_neg (by omega), hag1549 z9 (by omega)⟩) (by omega)
      refine lv_aload_n hx hb dX0_loopStatement_158 rfl (lv_at hl 5 rfl) ?_
      refine c_get (v := .ref (a 2)) (C := RX0) (Tc := TX0) (N := 13) (ci := 0) hx hb hq pin_wsX00 hown hE hP hO 24 (sg_24 G h0 a _ _ _ _ _) rfl 1 (by decide) (hq _ pw_5) (fun _ h9 => h9) rfl dX0_loopStatement_159 ?_
      refine lv_iload hx hb dX0_loopStatement_162 (lv_at hl 1 rfl) ?_
      have hO : OKW G h0 a (upd (upd (upd (upd (upd (upd (upd (upd (upd (upd (upd F 2 (nI sz)) 5 (nI (cs1464 + 1))) 6 (nI rg1368)) 7 (nI hd1469)) 8 (nI dp1470)) 12 (nI vr1468)) 13 as1465) 14 wt1466) 15 wf1467) 16 ls1370) 5 (nI (cs1464 + 1))) (updR (updR (updR R 2 (.ref pq)) 3 (.ref mq)) 4 (.ref q1282)) Z (updA (updA (updA (updA B1463 16 (upd ((B1463 16)) cs1464 6)) 17 (upd ((B1463 17)) cs1464 (nI cs1138))) 18 (upd ((B1463 18)) cs1464 0)) 19 (upd ((B1463 19)) cs1464 (nI hd1469))) J K1462.1 (fun q99 x99 => x99 = rep G a K1462 q99) w := hO.to rfl
      obtain ⟨_, qr1558, hqr1559⟩ := hO.2.1 13 _ (sg_13 G h0 a _ _ _ _ _)
      refine pc_V0 (G := G) (As := [.int x1225]) (rest := []) hx hb hml hown hq hE hX pX0_al hP hD hS hA hl.1 (Y_land l G h0 a (upd (upd (upd (upd (upd (upd (upd (upd (upd (upd F 2 (nI sz)) 5 (nI (cs1464 + 1))) 6 (nI rg1368)) 7 (nI hd1469)) 8 (nI dp1470)) 12 (nI vr1468)) 13 as1465) 14 wt1466) 15 wf1467) 16 ls1370) (updR (updR (updR R 2 (.ref pq)) 3 (.ref mq)) 4 (.ref q1282)) Z (updA (updA (updA (updA B1463 16 (upd ((B1463 16)) cs1464 6)) 17 (upd ((B1463 17)) cs1464 (nI cs1138))) 18 (upd ((B1463 18)) cs1464 0)) 19 (upd ((B1463 19)) cs1464 (nI hd1469))) J K1462.1 (fun q99 x99 => x99 = rep G a K1462 q99) w x1225 (cs1464 + 1) ex1228 (by omega) (ExJ.chn hex1553) (fun y9 hy9 => by have v9 := (ExJ.rng hex1553 y9 hy9).2; omega) hO) (gV pw_200 pw_201 pw_202 pw_70 pw_134) hV_X1_land qr1558 1 hqr1559 rfl rfl rfl (Nat.le_of_ble_eq_true rfl) dX0_loopStatement_164 ⟨(by show (1 + (rE (g 2 q4) - rS (g 2 q4))) + 0 ≤ ((rE (g 2 q) - rS (g 2 q)) + 1); omega), (by show (6 + (6 * (rE (g 2 q4) - rS (g 2 q4)))) + 0 ≤ (6 * (rE (g 2 q) - rS (g 2 q)) + 6); omega)⟩ ⟨(by show 2 + 1 ≤ (5 * n + 46); omega), (by show 8 + (5 + 11) + 60 ≤ (200 * n + 1120); omega)⟩ (fun v1557 u1555 H locs hw1556 hP hD hS => ?_)
      obtain ⟨w, _⟩ := u1555
      obtain ⟨hw1556, hO⟩ := hw1556
      obtain rfl : v1557 = none := hw1556
      have hO : OKP G h0 a (upd (upd (upd (upd (upd (upd (upd (upd (upd (upd F 2 (nI sz)) 5 (nI (cs1464 + 1))) 6 (nI rg1368)) 7 (nI hd1469)) 8 (nI dp1470)) 12 (nI vr1468)) 13 as1465) 14 wt1466) 15 wf1467) 16 ls1370) (updR (updR (updR R 2 (.ref pq)) 3 (.ref mq)) 4 (.ref q1282)) Z (updA (updA (updA (updA B1463 16 (upd ((B1463 16)) cs1464 6)) 17 (aim ((upd ((B1463 17)) cs1464 (nI cs1138))) ex1228 (cs1464 + 1))) 18 (upd ((B1463 18)) cs1464 0)) 19 (upd ((B1463 19)) cs1464 (nI hd1469))) J K1462 w := hO.to rfl
      refine W.widen (k := (1 + (rE (g 2 q4) - rS (g 2 q4)))) (n := (6 + (6 * (rE (g 2 q4) - rS (g 2 q4))))) (by show (1 + (rE (g 2 q4) - rS (g 2 q4))) + 0 ≤ (1 + (rE (g 2 q4) - rS (g 2 q4))); omega) (by show (6 + (6 * (rE (g 2 q4) - rS (g 2 q4)))) + 0 ≤ (6 + (6 * (rE (g 2 q4) - rS (g 2 q4)))); omega) ?_
      refine W.eq (g2 := F0 m 167 ls []) rfl ?_
      have hsw1560 : ∀ x9 : Nat, x9 < cs → (aim ((upd ((B1463 17)) cs1464 (nI cs1138))) ex1228 (cs1464 + 1)) x9 = B 17 x9 := fun x9 hx9 => (aim_no (fun q9 => by have e9 := (fun z9 hz9 => (ExJ.rng hex1553 z9 hz9).1) x9 q9; omega)).trans (hsw1540 x9 hx9)
      have hsx1561 : ∀ x9 : Nat, x9 < cs1138 → (aim ((upd ((B1463 17)) cs1464 (nI cs1138))) ex1228 (cs1464 + 1)) x9 = (B1137 17) x9 := fun x9 hx9 => (aim_no (fun q9 => by have e9 := (fun z9 hz9 => (ExJ.rng hex1553 z9 hz9).1) x9 q9; omega)).trans (hsx1544 x9 hx9)
      obtain ⟨Ag1562, hst1563, hag1564⟩ : ∃ A5 : Nat → AS, StW pb.1 pb.2.1 pb.2.2.1 pb.2.2.2 Ag1145 A5 Q9 Q1371 pd (pdm (pdm pd1372 xc1374) ex1228) m9 dp1470 lw cs1138 (cs1464 + 1) as1139 wf1224 hd1143 hd1143 sl1146 sl1146 gr gr1369 (upd ((B1463 16)) cs1464 6) (aim ((upd ((B1463 17)) cs1464 (nI cs1138))) ex1228 (cs1464 + 1)) (upd ((B1463 18)) cs1464 0) (upd ((B1463 19)) cs1464 (nI hd1469)) ([] : List Nat) ∧ ∀ x9 : Nat, x9 < (cs1464 + 1) → A5 x9 = Ag1547 x9 := ⟨(upS Ag1547 (cs1464 + 1) (rcA wf1224, hd1143, sl1146, ([] : List Nat))), StW.exit hst1548 (ExJ.dn hex1553 (by omega)) (by omega) (by omega) h1237 hwfF (by omega), fun x9 hx9 => upS_ne (by omega)⟩
      have hen1565 := EnV.back h1159 hvF1521
      have hj1566 : (upd ((B1463 16)) cs1464 6) cs1138 = (nI 0) := (rfl).trans hj1551
      have hj1567 : Ag1562 cs1138 = (rcA as1139, hd1143, sl1146, ([] : List Nat)) := (hag1564 cs1138 (by omega)).trans hj1552
      have hbq1568 : BrJ (upd ((B1463 16)) cs1464 6) (aim ((upd ((B1463 17)) cs1464 (nI cs1138))) ex1228 (cs1464 + 1)) Ag1562 bv bsv xb1373 lw (cs1464 + 1) hd1143 sl1146 := BrJ.same hbq1554 (fun z9 hz9 => by have y9 := BrJ.lt hbq1554 z9 hz9; have y8 := hgeb z9 hz9; exact ⟨rfl, aim_no (fun q9 => by have e9 := (ExJ.rng hex1553 z9 q9); omega), hag1564 z9 (by omega)⟩) (by omega)
      refine lv_aload_n hx hb dX0_loopStatement_167 rfl (lv_at hl 5 rfl) ?_
      refine c_get (v := .ref (a 2)) (C := RX0) (Tc := TX0) (N := 13) (ci := 0) hx hb hq pin_wsX00 hown hE hP hO 24 (sg_24 G h0 a _ _ _ _ _) rfl 1 (by decide) (hq _ pw_5) (fun _ h9 => h9) rfl dX0_loopStatement_168 ?_
      refine lv_aload_n hx hb dX0_loopStatement_171 rfl (lv_at hl 5 rfl) ?_
      refine c_get (v := .ref q1282) (C := RX0) (Tc := TX0) (N := 13) (ci := 0) hx hb hq pin_wsX00 hown hE hP hO 24 (sg_24 G h0 a _ _ _ _ _) rfl 11 (by decide) (hq _ pw_73) (fun _ h9 => h9) rfl dX0_loopStatement_172 ?_
      refine p_get (v := .int bv) (C := RX4) (Tc := TX4) (N := 6) (ci := 11) hx hb hq pin_wsX40 hown hE hP hO (by rw [hf1504]; decide) (rep_9 hf1504) rfl 2 (by decide) (hq _ pw_282) (fun _ h9 => h9) (congrArg (fun z => some (Value.int z)) hf1532) dX0_loopStatement_175 ?_
      have hao1569 := AsO.and h1236.2.2 hi5
      have hO : OKW G h0 a (upd (upd (upd (upd (upd (upd (upd (upd (upd (upd (upd F 2 (nI sz)) 5 (nI (cs1464 + 1))) 6 (nI rg1368)) 7 (nI hd1469)) 8 (nI dp1470)) 12 (nI vr1468)) 13 as1465) 14 wt1466) 15 wf1467) 16 ls1370) 5 (nI (cs1464 + 1))) (updR (updR (updR R 2 (.ref pq)) 3 (.ref mq)) 4 (.ref q1282)) Z (updA (updA (updA (updA B1463 16 (upd ((B1463 16)) cs1464 6)) 17 (aim ((upd ((B1463 17)) cs1464 (nI cs1138))) ex1228 (cs1464 + 1))) 18 (upd ((B1463 18)) cs1464 0)) 19 (upd ((B1463 19)) cs1464 (nI hd1469))) J K1462.1 (fun q99 x99 => x99 = rep G a K1462 q99) w := hO.to rfl
      obtain ⟨_, qr1573, hqr1574⟩ := hO.2.1 13 _ (sg_13 G h0 a _ _ _ _ _)
      refine pc_V0 (G := G) (As := [.int bv]) (rest := []) hx hb hml hown hq hE hX pX0_al hP hD hS hA hl.1 (Y_land l G h0 a (upd (upd (upd (upd (upd (upd (upd (upd (upd (upd F 2 (nI sz)) 5 (nI (cs1464 + 1))) 6 (nI rg1368)) 7 (nI hd1469)) 8 (nI dp1470)) 12 (nI vr1468)) 13 as1465) 14 wt1466) 15 wf1467) 16 ls1370) (updR (updR (updR R 2 (.ref pq)) 3 (.ref mq)) 4 (.ref q1282)) Z (updA (updA (updA (updA B1463 16 (upd ((B1463 16)) cs1464 6)) 17 (aim ((upd ((B1463 17)) cs1464 (nI cs1138))) ex1228 (cs1464 + 1))) 18 (upd ((B1463 18)) cs1464 0)) 19 (upd ((B1463 19)) cs1464 (nI hd1469))) J K1462.1 (fun q99 x99 => x99 = rep G a K1462 q99) w bv (cs1464 + 1) xb1373 (by omega) hbq1568.1 (BrJ.lt hbq1568) hO) (gV pw_200 pw_201 pw_202 pw_70 pw_134) hV_X1_land qr1573 1 hqr1574 rfl rfl rfl (Nat.le_of_ble_eq_true rfl) dX0_loopStatement_178 ⟨(by show (1 + (rE (g 2 q4) - rS (g 2 q4))) + 0 ≤ ((rE (g 2 q) - rS (g 2 q)) + 1); omega), (by show (6 + (6 * (rE (g 2 q4) - rS (g 2 q4)))) + 0 ≤ (6 * (rE (g 2 q) - rS (g 2 q)) + 6); omega)⟩ ⟨(by show 2 + 1 ≤ (5 * n + 46); omega), (by show 8 + (5 + 11) + 60 ≤ (200 * n + 1120); omega)⟩ (fun v1572 u1570 H locs hw1571 hP hD hS => ?_)
      obtain ⟨w, _⟩ := u1570
      obtain ⟨hw1571, hO⟩ := hw1571
      obtain rfl : v1572 = none := hw1571
      have hO : OKP G h0 a (upd (upd (upd (upd (upd (upd (upd (upd (upd (upd F 2 (nI sz)) 5 (nI (cs1464 + 1))) 6 (nI rg1368)) 7 (nI hd1469)) 8 (nI dp1470)) 12 (nI vr1468)) 13 as1465) 14 wt1466) 15 wf1467) 16 ls1370) (updR (updR (updR R 2 (.ref pq)) 3 (.ref mq)) 4 (.ref q1282)) Z (updA (updA (updA (updA B1463 16 (upd ((B1463 16)) cs1464 6)) 17 (aim ((aim ((upd ((B1463 17)) cs1464 (nI cs1138))) ex1228 (cs1464 + 1))) xb1373 (cs1464 + 1))) 18 (upd ((B1463 18)) cs1464 0)) 19 (upd ((B1463 19)) cs1464 (nI hd1469))) J K1462 w := hO.to rfl
      refine W.widen (k := (1 + (rE (g 2 q4) - rS (g 2 q4)))) (n := (6 + (6 * (rE (g 2 q4) - rS (g 2 q4))))) (by show (1 + (rE (g 2 q4) - rS (g 2 q4))) + 0 ≤ (1 + (rE (g 2 q4) - rS (g 2 q4))); omega) (by show (6 + (6 * (rE (g 2 q4) - rS (g 2 q4)))) + 0 ≤ (6 + (6 * (rE (g 2 q4) - rS (g 2 q4)))); omega) ?_
      refine W.eq (g2 := F0 m 181 ls []) rfl ?_
      have hsw1575 : ∀ x9 : Nat, x9 < cs → (aim ((aim ((upd ((B1463 17)) cs1464 (nI cs1138))) ex1228 (cs1464 + 1))) xb1373 (cs1464 + 1)) x9 = B 17 x9 := fun x9 hx9 => (aim_no (fun q9 => by have e9 := hgeb x9 q9; omega)).trans (hsw1560 x9 hx9)
      have hsx1576 : ∀ x9 : Nat, x9 < cs1138 → (aim ((aim ((upd ((B1463 17)) cs1464 (nI cs1138))) ex1228 (cs1464 + 1))) xb1373 (cs1464 + 1)) x9 = (B1137 17) x9 := fun x9 hx9 => (aim_no (fun q9 => by have e9 := hgeb x9 q9; omega)).trans (hsx1561 x9 hx9)
      obtain ⟨Ag1577, hst1578, hag1579⟩ : ∃ A5 : Nat → AS, StW pb.1 pb.2.1 pb.2.2.1 pb.2.2.2 Ag1145 A5 Q9 Q1371 pd (pdm (pdm (pdm pd1372 xc1374) ex1228) xb1373) m9 dp1470 lw cs1138 (cs1464 + 1) as1139 (wf1224 &&& bsv) hd1143 hd1143 sl1146 sl1146 gr gr1369 (upd ((B1463 16)) cs1464 6) (aim ((aim ((upd ((B1463 17)) cs1464 (nI cs1138))) ex1228 (cs1464 + 1))) xb1373 (cs1464 + 1)) (upd ((B1463 18)) cs1464 0) (upd ((B1463 19)) cs1464 (nI hd1469)) ([] : List Nat) ∧ ∀ x9 : Nat, x9 < (cs1464 + 1) → A5 x9 = Ag1562 x9 := ⟨(upS Ag1562 (cs1464 + 1) (rcA (wf1224 &&& bsv), hd1143, sl1146, ([] : List Nat))), StW.lnd (bs := bsv) hst1563 (fun z9 hz9 => ⟨⟨hi7 z9 hz9, fun q9 => hidis z9 hz9 q9⟩, fun q9 => by have y9 := hgeb z9 hz9; have y8 := (ExJ.rng hex1553 z9 q9).2; omega⟩) hbq1568.2 (fun z9 => and_n2 z9) (fun z9 => and_n1 z9) (fun z9 hz9 => by have y9 := hgeb z9 hz9; omega) ⟨by omega, by omega⟩ (fun z9 e9 => z9 (and_m1.mpr ⟨Classical.byContradiction fun y9 => h1237 y9 e9, Classical.byContradiction fun y9 => hlri.1 y9 e9⟩)) hwfF (by omega), fun x9 hx9 => upS_ne (by omega)⟩
      have hj1580 : (upd ((B1463 16)) cs1464 6) cs1138 = (nI 0) := (rfl).trans hj1566
      have hj1581 : Ag1577 cs1138 = (rcA as1139, hd1143, sl1146, ([] : List Nat)) := (hag1579 cs1138 (by omega)).trans hj1567
      refine lv_aload_n hx hb dX0_loopStatement_181 rfl (lv_at hl 5 rfl) ?_
      refine lv_iload hx hb dX0_loopStatement_182 (lv_at hl 0 rfl) ?_
      refine lv_aload_n hx hb dX0_loopStatement_184 rfl (lv_at hl 5 rfl) ?_
      refine c_get (v := .ref q1282) (C := RX0) (Tc := TX0) (N := 13) (ci := 0) hx hb hq pin_wsX00 hown hE hP hO 24 (sg_24 G h0 a _ _ _ _ _) rfl 11 (by decide) (hq _ pw_73) (fun _ h9 => h9) rfl dX0_loopStatement_185 ?_
      refine p_get (v := .int bsv) (C := RX4) (Tc := TX4) (N := 6) (ci := 11) hx hb hq pin_wsX40 hown hE hP hO (by rw [hf1504]; decide) (rep_9 hf1504) rfl 4 (by decide) (hq _ pw_283) (fun _ h9 => h9) (congrArg (fun z => some (Value.int z)) hf1533) dX0_loopStatement_188 ?_
      refine lv_iand hx hb dX0_loopStatement_191 ?_
      refine lv_topi (fun x1582 e1583 => ?_)
      obtain rfl : x1582 = (wf1224 &&& bsv) := e1583
      refine c_put (v := .int (wf1224 &&& bsv)) (ty := .int) (C := RX0) (Tc := TX0) (N := 13) (ci := 0) hx hb hq pin_wsX00 tyX0 tyX0_ok nmX0 hown hE hP hD hS hO 24 (sg_24 G h0 a _ _ _ _ _) rfl 8 (by decide) (hq _ pw_55) (fun _ h9 => h9) rfl (by decide +kernel) rfl rfl (Nat.le_of_ble_eq_true rfl) (sf_13 G h0 a _ _ _ _ _ (wf1224 &&& bsv)) dX0_loopStatement_192 (fun H locs w hP hD hS hO => ?_)
      refine lv_aload_n hx hb dX0_loopStatement_195 rfl (lv_at hl 5 rfl) ?_
      refine lv_aload_n hx hb dX0_loopStatement_196 rfl (lv_at hl 5 rfl) ?_
      refine c_get (v := .ref q1282) (C := RX0) (Tc := TX0) (N := 13) (ci := 0) hx hb hq pin_wsX00 hown hE hP hO 24 (sg_24 G h0 a _ _ _ _ _) rfl 11 (by decide) (hq _ pw_73) (fun _ h9 => h9) rfl dX0_loopStatement_197 ?_
      refine p_get (v := va_rf lp9) (C := RX4) (Tc := TX4) (N := 6) (ci := 11) hx hb hq pin_wsX40 hown hE hP hO (by rw [hf1504]; decide) (rep_9 hf1504) rfl 0 (by decide) (hq _ pw_317) (fun _ h9 => h9) (congrArg (fun z => some (va_rf z)) hf1505) dX0_loopStatement_200 ?_
      refine c_put (v := va_rf lp9) (ty := (.object "JinjaTongue$Loop")) (C := RX0) (Tc := TX0) (N := 13) (ci := 0) hx hb hq pin_wsX00 tyX0 tyX0_ok nmX0 hown hE hP hD hS hO 24 (sg_24 G h0 a _ _ _ _ _) rfl 11 (by decide) (hq _ pw_73) (fun _ h9 => h9) rfl (by decide +kernel) (by cases lp9 <;> first | rfl | exact Nat.le_of_ble_eq_true rfl) (by cases lp9 <;> first | rfl | exact Nat.le_of_ble_eq_true rfl) (by cases lp9 <;> first | rfl | exact Nat.le_of_ble_eq_true rfl) (sr_4 G h0 a _ _ _ _ _ (va_rf lp9)) dX0_loopStatement_203 (fun H locs w hP hD hS hO => ?_)
      refine lv_aload_n hx hb dX0_loopStatement_206 rfl (lv_at hl 5 rfl) ?_
      refine lv_iload_n hx hb dX0_loopStatement_207 rfl (lv_at hl 4 rfl) ?_
      refine lv_iload_n hx hb dX0_loopStatement_208 rfl (lv_at hl 3 rfl) ?_
      have hstL : StW pb.1 pb.2.1 pb.2.2.1 pb.2.2.2 Ag Ag1577 Q9 Q1371 pd (pdm (pdm (pdm pd1372 xc1374) ex1228) xb1373) m9 dp1470 lw cs (cs1464 + 1) as9 (wf1224 &&& bsv) hd hd1143 sl sl1146 gr gr1369 (upd ((B1463 16)) cs1464 6) (aim ((aim ((upd ((B1463 17)) cs1464 (nI cs1138))) ex1228 (cs1464 + 1))) xb1373 (cs1464 + 1)) (upd ((B1463 18)) cs1464 0) (upd ((B1463 19)) cs1464 (nI hd1469)) ([] : List Nat) := StW.seq hst1189 (by omega) (fun x9 hx9 => ⟨hsx1543 x9 hx9, hsx1576 x9 hx9⟩) hst1578
      have hpdL : PdS pd (pdm (pdm (pdm pd1372 xc1374) ex1228) xb1373) xb xb xc xc ([] : List Nat) cs (cs1464 + 1) := PdS.loop hpd1193 hlp1192.1 h1240 (fun z9 hz9 => by have y9 := (ExJ.rng hex1553 z9 hz9).1; omega) hpdi (by omega) (by omega)
      have hlpL : LpS K1462 (upd ((B1463 16)) cs1464 6) (aim ((aim ((upd ((B1463 17)) cs1464 (nI cs1138))) ex1228 (cs1464 + 1))) xb1373 (cs1464 + 1)) Ag1577 (pdm (pdm (pdm pd1372 xc1374) ex1228) xb1373) lp9 lw (cs1464 + 1) hd1143 sl1146 hdL slL xb xc := LpS.same hlp1192 (fun lq9 e9 f9 _ _ => hbk1530 lq9 (LpO.be hbe1178 hlo lq9 e9) (fun z => by have y9 := hlo lq9 e9; have v9 := Option.some.inj z; rw [← v9, hinn] at y9; exact absurd y9 (by decide)) f9) (fun z9 hz9 => ⟨hsx1543 z9 hz9, hsx1576 z9 hz9, hst1578.2.2.1 z9 (by omega)⟩) (fun z9 h9 => ⟨⟨⟨hpdi.1 z9 ((h1240 z9).mpr (Or.inl h9)), fun q9 => by have y9 := hgec z9 q9; have y8 := hlp1192.1 z9 h9; omega⟩, fun q9 => by have y9 := (ExJ.rng hex1553 z9 q9).1; have y8 := hlp1192.1 z9 h9; omega⟩, fun q9 => by have y9 := hgeb z9 q9; have y8 := hlp1192.1 z9 h9; omega⟩) (fun z9 h9 => by have v9 := hlpi.1 z9 h9.1.1.1; omega) (by omega) hst1578.2.2.2.2.2.2.1
      have hO : OKW G h0 a (upd (upd (upd (upd (upd (upd (upd (upd (upd (upd F 2 (nI sz)) 5 (nI (cs1464 + 1))) 6 (nI rg1368)) 7 (nI hd1469)) 8 (nI dp1470)) 12 (nI vr1468)) 13 (wf1224 &&& bsv)) 14 wt1466) 15 wf1467) 16 ls1370) (updR (updR (updR R 2 (.ref pq)) 3 (.ref mq)) 4 (va_rf lp9)) Z (updA (updA (updA (updA B1463 16 (upd ((B1463 16)) cs1464 6)) 17 (aim ((aim ((upd ((B1463 17)) cs1464 (nI cs1138))) ex1228 (cs1464 + 1))) xb1373 (cs1464 + 1))) 18 (upd ((B1463 18)) cs1464 0)) 19 (upd ((B1463 19)) cs1464 (nI hd1469))) J K1462.1 (fun q99 x99 => x99 = rep G a K1462 q99) w := hO.to rfl
      obtain ⟨_, qr1587, hqr1588⟩ := hO.2.1 24 _ (sg_24 G h0 a _ _ _ _ _)
      refine pc_V0 (G := G) (As := [.int (nI vr), .int (nI hd)]) (rest := []) hx hb hml hown hq hE hX pX0_al hP hD hS hA hl.1 (B_endScope l G h0 a (upd (upd (upd (upd (upd (upd (upd (upd (upd (upd F 2 (nI sz)) 5 (nI (cs1464 + 1))) 6 (nI rg1368)) 7 (nI hd1469)) 8 (nI dp1470)) 12 (nI vr1468)) 13 (wf1224 &&& bsv)) 14 wt1466) 15 wf1467) 16 ls1370) (updR (updR (updR R 2 (.ref pq)) 3 (.ref mq)) 4 (va_rf lp9)) Z (updA (updA (updA (updA B1463 16 (upd ((B1463 16)) cs1464 6)) 17 (aim ((aim ((upd ((B1463 17)) cs1464 (nI cs1138))) ex1228 (cs1464 + 1))) xb1373 (cs1464 + 1))) 18 (upd ((B1463 18)) cs1464 0)) 19 (upd ((B1463 19)) cs1464 (nI hd1469))) J K1462.1 (fun q99 x99 => x99 = rep G a K1462 q99) w (nI vr) (nI hd) hO) (gV pw_303 pw_304 pw_305 pw_63 pw_99) hV_X0_endScope qr1587 0 hqr1588 rfl rfl rfl (Nat.le_of_ble_eq_true rfl) dX0_loopStatement_209 ⟨(by show (1 + (rE (g 2 q4) - rS (g 2 q4))) + 0 ≤ ((rE (g 2 q) - rS (g 2 q)) + 1); omega), (by show (6 + (6 * (rE (g 2 q4) - rS (g 2 q4)))) + 0 ≤ (6 * (rE (g 2 q) - rS (g 2 q)) + 6); omega)⟩ ⟨(by show 2 + 1 ≤ (5 * n + 46); omega), (by show 8 + (3 + 11) + 60 ≤ (200 * n + 1120); omega)⟩ (fun v1586 u1584 H locs hw1585 hP hD hS => ?_)
      obtain ⟨w, _⟩ := u1584
      obtain ⟨hw1585, hO⟩ := hw1585
      obtain rfl : v1586 = none := hw1585
      have hO : OKP G h0 a (upd (upd (upd (upd (upd (upd (upd (upd (upd (upd F 2 (nI sz)) 5 (nI (cs1464 + 1))) 6 (nI rg1368)) 7 (nI hd)) 8 (nI dp1470)) 12 (nI vr)) 13 (wf1224 &&& bsv)) 14 wt1466) 15 wf1467) 16 ls1370) (updR (updR (updR R 2 (.ref pq)) 3 (.ref mq)) 4 (va_rf lp9)) Z (updA (updA (updA (updA B1463 16 (upd ((B1463 16)) cs1464 6)) 17 (aim ((aim ((upd ((B1463 17)) cs1464 (nI cs1138))) ex1228 (cs1464 + 1))) xb1373 (cs1464 + 1))) 18 (upd ((B1463 18)) cs1464 0)) 19 (upd ((B1463 19)) cs1464 (nI hd1469))) J K1462 w := hO.to rfl
      refine W.widen (k := (1 + (rE (g 2 q4) - rS (g 2 q4)))) (n := (6 + (6 * (rE (g 2 q4) - rS (g 2 q4))))) (by show (1 + (rE (g 2 q4) - rS (g 2 q4))) + 0 ≤ (1 + (rE (g 2 q4) - rS (g 2 q4))); omega) (by show (6 + (6 * (rE (g 2 q4) - rS (g 2 q4)))) + 0 ≤ (6 + (6 * (rE (g 2 q4) - rS (g 2 q4)))); omega) ?_
      refine W.eq (g2 := F0 m 212 ls []) rfl ?_
      obtain ⟨Ag1589, hst1590, hag1591⟩ : ∃ A5 : Nat → AS, StW pb.1 pb.2.1 pb.2.2.1 pb.2.2.2 Ag A5 Q9 Q1371 pd (pdm (pdm (pdm pd1372 xc1374) ex1228) xb1373) m9 dp1470 lw cs (cs1464 + 1) as9 (wf1224 &&& bsv) hd hd sl sl gr gr1369 (upd ((B1463 16)) cs1464 6) (aim ((aim ((upd ((B1463 17)) cs1464 (nI cs1138))) ex1228 (cs1464 + 1))) xb1373 (cs1464 + 1)) (upd ((B1463 18)) cs1464 0) (upd ((B1463 19)) cs1464 (nI hd1469)) ([] : List Nat) ∧ ∀ x9 : Nat, x9 < (cs1464 + 1) → A5 x9 = Ag1577 x9 := StW.scope2 hstL (Or.inl (by omega)) (by omega) hwfa (by omega)
      have hlp1592 : LpS K1462 (upd ((B1463 16)) cs1464 6) (aim ((aim ((upd ((B1463 17)) cs1464 (nI cs1138))) ex1228 (cs1464 + 1))) xb1373 (cs1464 + 1)) Ag1589 (pdm (pdm (pdm pd1372 xc1374) ex1228) xb1373) lp9 lw (cs1464 + 1) hd sl hdL slL xb xc := LpS.same (LpS.to hlpL hlp) (fun _ _ _ _ _ => rfl) (fun z9 hz9 => ⟨rfl, rfl, hag1591 z9 hz9⟩) (fun _ h9 => h9) hlpL.1 (Nat.le_refl _) ⟨Nat.le_refl _, fun _ _ => rfl⟩
      have hen1593 : EnV (B1463 26) (B1463 27) nd vr hd c0 sl := EnV.back hen hvs1520
      refine W_size (fun hz1 hz2 => ?_)
      refine vx_ret ?_
      have hz1594 : SmW B (updA (updA (updA (updA B1463 16 (upd ((B1463 16)) cs1464 6)) 17 (aim ((aim ((upd ((B1463 17)) cs1464 (nI cs1138))) ex1228 (cs1464 + 1))) xb1373 (cs1464 + 1))) 18 (upd ((B1463 18)) cs1464 0)) 19 (upd ((B1463 19)) cs1464 (nI hd1469))) cs := (fun x9 hx9 => ⟨hsw1539 x9 hx9, hsw1575 x9 hx9, hsw1541 x9 hx9, hsw1542 x9 hx9⟩)
      have hz1595 : BdE K K1462 := hbe1506
      have hz1596 : BeF K K1462 := hbf1517
      have hz1597 : BeL K K1462 lp9 := hbl1519
      have hz1598 : Bth B (updA (updA (updA (updA B1463 16 (upd ((B1463 16)) cs1464 6)) 17 (aim ((aim ((upd ((B1463 17)) cs1464 (nI cs1138))) ex1228 (cs1464 + 1))) xb1373 (cs1464 + 1))) 18 (upd ((B1463 18)) cs1464 0)) 19 (upd ((B1463 19)) cs1464 (nI hd1469))) := (show Thx (upd (upd (upd (upd (upd (upd (upd (upd F 2 (nI sz)) 5 (nI cs)) 6 (nI rg)) 7 (nI hd)) 8 (nI dp)) 12 (nI vr)) 13 as9) 16 ls9) (upd (upd (upd (upd (upd (upd (upd (upd (upd (upd (upd (upd (upd (upd (upd F 2 (nI sz)) 5 (nI cs)) 6 (nI rg)) 7 (nI hd)) 8 (nI dp)) 12 (nI vr)) 13 as9) 16 ls9) 5 (nI (cs1464 + 1))) 6 (nI rg1368)) 8 (nI dp1470)) 13 (wf1224 &&& bsv)) 14 wt1466) 15 wf1467) 16 ls1370) B (updA (updA (updA (updA B1463 16 (upd ((B1463 16)) cs1464 6)) 17 (aim ((aim ((upd ((B1463 17)) cs1464 (nI cs1138))) ex1228 (cs1464 + 1))) xb1373 (cs1464 + 1))) 18 (upd ((B1463 18)) cs1464 0)) 19 (upd ((B1463 19)) cs1464 (nI hd1469))) from (Thx.b (Thx.b8 (Thx.b (Thx.b (Thx.f (Thx.f (Thx.f (Thx.f (Thx.f (Thx.f (Thx.f (Bth.thx hbb1507) (by omega)) (by omega)) (by omega)) (by omega)) (by omega)) (by omega)) (by omega)) (by omega) (by decide)) (by omega) (by decide)) hng1550) (by omega) (by decide))).2
      have hz1599 : BtR B (updA (updA (updA (updA B1463 16 (upd ((B1463 16)) cs1464 6)) 17 (aim ((aim ((upd ((B1463 17)) cs1464 (nI cs1138))) ex1228 (cs1464 + 1))) xb1373 (cs1464 + 1))) 18 (upd ((B1463 18)) cs1464 0)) 19 (upd ((B1463 19)) cs1464 (nI hd1469))) := (BtR.up (BtR.up (BtR.up (BtR.up hbr1518 (by omega)) (by omega)) (by omega)) (by omega))
      have hz1600 : cs ≤ (cs1464 + 1) ∧ (cs1464 + 1) + 1 ≤ cs + 2 * tlE g q := (by omega)
      have hz1601 : dp ≤ dp1470 ∧ dp1470 ≤ 71 := (by omega)
      have hz1602 : AsO (wf1224 &&& bsv) := hao1569
      have hz1603 : VrS B (updA (updA (updA (updA B1463 16 (upd ((B1463 16)) cs1464 6)) 17 (aim ((aim ((upd ((B1463 17)) cs1464 (nI cs1138))) ex1228 (cs1464 + 1))) xb1373 (cs1464 + 1))) 18 (upd ((B1463 18)) cs1464 0)) 19 (upd ((B1463 19)) cs1464 (nI hd1469))) vr := hvs1520
      have hz1604 : gr ≤ gr1369 ∧ rg1368 ≤ 625 ∧ rg1368 ≤ gr1369 ∧ (rg1368 = 625 ∨ rg1368 = gr1369) := (by omega)
      have hz1605 : EnV ((updA (updA (updA (updA B1463 16 (upd ((B1463 16)) cs1464 6)) 17 (aim ((aim ((upd ((B1463 17)) cs1464 (nI cs1138))) ex1228 (cs1464 + 1))) xb1373 (cs1464 + 1))) 18 (upd ((B1463 18)) cs1464 0)) 19 (upd ((B1463 19)) cs1464 (nI hd1469))) 26) ((updA (updA (updA (updA B1463 16 (upd ((B1463 16)) cs1464 6)) 17 (aim ((aim ((upd ((B1463 17)) cs1464 (nI cs1138))) ex1228 (cs1464 + 1))) xb1373 (cs1464 + 1))) 18 (upd ((B1463 18)) cs1464 0)) 19 (upd ((B1463 19)) cs1464 (nI hd1469))) 27) nd vr hd c0 sl := hen1593
      have hz1606 : StW pb.1 pb.2.1 pb.2.2.1 pb.2.2.2 Ag Ag1589 Q9 Q1371 pd (pdm (pdm (pdm pd1372 xc1374) ex1228) xb1373) m9 dp1470 lw cs (cs1464 + 1) as9 (wf1224 &&& bsv) hd hd sl sl gr gr1369 ((updA (updA (updA (updA B1463 16 (upd ((B1463 16)) cs1464 6)) 17 (aim ((aim ((upd ((B1463 17)) cs1464 (nI cs1138))) ex1228 (cs1464 + 1))) xb1373 (cs1464 + 1))) 18 (upd ((B1463 18)) cs1464 0)) 19 (upd ((B1463 19)) cs1464 (nI hd1469))) 16) ((updA (updA (updA (updA B1463 16 (upd ((B1463 16)) cs1464 6)) 17 (aim ((aim ((upd ((B1463 17)) cs1464 (nI cs1138))) ex1228 (cs1464 + 1))) xb1373 (cs1464 + 1))) 18 (upd ((B1463 18)) cs1464 0)) 19 (upd ((B1463 19)) cs1464 (nI hd1469))) 17) ((updA (updA (updA (updA B1463 16 (upd ((B1463 16)) cs1464 6)) 17 (aim ((aim ((upd ((B1463 17)) cs1464 (nI cs1138))) ex1228 (cs1464 + 1))) xb1373 (cs1464 + 1))) 18 (upd ((B1463 18)) cs1464 0)) 19 (upd ((B1463 19)) cs1464 (nI hd1469))) 18) ((updA (updA (updA (updA B1463 16 (upd ((B1463 16)) cs1464 6)) 17 (aim ((aim ((upd ((B1463 17)) cs1464 (nI cs1138))) ex1228 (cs1464 + 1))) xb1373 (cs1464 + 1))) 18 (upd ((B1463 18)) cs1464 0)) 19 (upd ((B1463 19)) cs1464 (nI hd1469))) 19) [] := hst1590
      have hz1607 : LpS K1462 ((updA (updA (updA (updA B1463 16 (upd ((B1463 16)) cs1464 6)) 17 (aim ((aim ((upd ((B1463 17)) cs1464 (nI cs1138))) ex1228 (cs1464 + 1))) xb1373 (cs1464 + 1))) 18 (upd ((B1463 18)) cs1464 0)) 19 (upd ((B1463 19)) cs1464 (nI hd1469))) 16) ((updA (updA (updA (updA B1463 16 (upd ((B1463 16)) cs1464 6)) 17 (aim ((aim ((upd ((B1463 17)) cs1464 (nI cs1138))) ex1228 (cs1464 + 1))) xb1373 (cs1464 + 1))) 18 (upd ((B1463 18)) cs1464 0)) 19 (upd ((B1463 19)) cs1464 (nI hd1469))) 17) Ag1589 (pdm (pdm (pdm pd1372 xc1374) ex1228) xb1373) lp9 lw (cs1464 + 1) hd sl hdL slL xb xc := hlp1592
      have hz1608 : PdS pd (pdm (pdm (pdm pd1372 xc1374) ex1228) xb1373) xb xb xc xc [] cs (cs1464 + 1) := hpdL
      have hz1609 : RgQx (updA (updA (updA (updA B1463 16 (upd ((B1463 16)) cs1464 6)) 17 (aim ((aim ((upd ((B1463 17)) cs1464 (nI cs1138))) ex1228 (cs1464 + 1))) xb1373 (cs1464 + 1))) 18 (upd ((B1463 18)) cs1464 0)) 19 (upd ((B1463 19)) cs1464 (nI hd1469))) Q1371 gr1369 nd := hrq1524
      have hz1610 : LpR K1462 lp9 rL := hlr1525
      have hO : OKP G h0 a (upd (upd (upd (upd (upd (upd (upd (upd (upd (upd F 2 (nI sz)) 5 (nI (cs1464 + 1))) 6 (nI rg1368)) 7 (nI hd)) 8 (nI dp1470)) 12 (nI vr)) 13 (wf1224 &&& bsv)) 14 wt1466) 15 wf1467) 16 ls1370) (updR (updR (updR R 2 (.ref pq)) 3 (.ref mq)) 4 (va_rf lp9)) Z (updA (updA (updA (updA B1463 16 (upd ((B1463 16)) cs1464 6)) 17 (aim ((aim ((upd ((B1463 17)) cs1464 (nI cs1138))) ex1228 (cs1464 + 1))) xb1373 (cs1464 + 1))) 18 (upd ((B1463 18)) cs1464 0)) 19 (upd ((B1463 19)) cs1464 (nI hd1469))) J K1462 w := hO.to rfl
      refine W.widen (k := ((rE (g 2 q) - rS (g 2 q)) + 1)) (n := (6 * (rE (g 2 q) - rS (g 2 q)) + 6)) (by omega) (by omega) ?_
      have hzz1 : H.size ≤ s.heap.size + ((rE (g 2 q) - rS (g 2 q))) := (by have z : (1 + (rE (g 2 q4) - rS (g 2 q4))) ≤ (rE (g 2 q) - rS (g 2 q)) := (by omega); omega)
      have hzz2 : hSl H ≤ hSl s.heap + ((6 * (rE (g 2 q) - rS (g 2 q)))) := (by have z : (6 + (6 * (rE (g 2 q4) - rS (g 2 q4)))) ≤ (6 * (rE (g 2 q) - rS (g 2 q))) := (by omega); omega)
      exact W.vret hx hb hr (fun t99 ht99 hW99 => ⟨⟨_, (w, (K1462, (updA (updA (updA (updA B1463 16 (upd ((B1463 16)) cs1464 6)) 17 (aim ((aim ((upd ((B1463 17)) cs1464 (nI cs1138))) ex1228 (cs1464 + 1))) xb1373 (cs1464 + 1))) 18 (upd ((B1463 18)) cs1464 0)) 19 (upd ((B1463 19)) cs1464 (nI hd1469))), (cs1464 + 1), (wf1224 &&& bsv), wt1466, wf1467, dp1470, Ag1589, rg1368, gr1369, ls1370, Q1371, (pdm (pdm (pdm pd1372 xc1374) ex1228) xb1373), xb, xc)), rfl, ⟨rfl, hz1594, hz1595, hz1596, hz1597, hz1598, hz1599, hz1600, hz1601, hz1602, hz1603, hz1604, hz1605, hz1606, hz1607, hz1608, hz1609, hz1610, hO⟩, by rw [ht99]; exact hP, hD, by rw [ht99]; exact hzz1, by rw [ht99]; exact hzz2⟩, hS.F ht99⟩) hS.2.2 dX0_loopStatement_212

theorem BeL.own {K : PK} {q f : Nat} {v : Int32} : BeL K (kI K f q v) (some q) := fun p _ hn g => kI_ne (fun z => hn (by rw [z]))
theorem BeF.oth {K : PK} {q f : Nat} {v : Int32} (h : ¬ 5 = f) : BeF K (kI K f q v) := fun p _ _ => kI_of h
set_option maxHeartbeats 60000000 in
set_option maxRecDepth 100000 in
theorem Y_jumpS (l : Launch) (G : pT) (h0 : Nat) (a : Nat → Nat) (F : Nat → Int32) (R : Nat → Value) (Z : Int64) (B : Nat → Nat → Int32) (J : Nat → Nat → Int64) (K : PK) (w : va_W) (pq : Nat) (dr : Nat) (ml : Nat) (nd : Nat) (nm : Nat) (cp : Nat) (it : Nat → Nat) (s9 : Nat) (q : Nat) (mq : Nat) (cs : Nat) (vr : Nat) (sz : Nat) (n : Nat) (hd : Nat) (dp : Nat) (rg : Nat) (ls9 : Int32) (lp9 : Option Nat) (g : Nat → Nat → Nat) (rk : Nat → Nat) (pb : PNb) (Ag : Nat → AS) (Q9 : RX) (pd : Nat → Prop) (sl : Nat → Nat) (m9 : Nat) (lw : Nat) (c0 : Nat) (rt : Nat) (gr : Nat) (as9 : Int32) (hdL : Nat) (slL : Nat → Nat) (xb : List Nat) (xc : List Nat) (rL : Prop) (hsz : sz ≤ 5000) (hwp : WPr G K g) (hps : PgT G K g (a 1) pq dr ml nd nm cp it s9) (hrk : RkO K rk) (hcs : cs ≤ 10000) (hvr : vr ≤ 30) (hng : Nng (B 18)) (hmq : K.1 mq = 3) (hqT : K.1 q = 1) (hqL : 1 ≤ g 0 q ∧ g 0 q ≤ n) (hrt : K.2.1 10 mq = nI rt) (hrv : TyV nd rt ∧ (bX pb).2.2.2.2.1 m9 = rt) (hdp : dp ≤ 71) (hrg : rg ≤ 625) (hhd : hd ≤ 41 + vr) (hlo : LpO K lp9) (hek : EkA pb K g (B 7) (B 11) sz) (hcO : OwC K dr mq c0) (hna : NaB pb G K (B 11) dr nd sz) (hen : EnV (B 26) (B 27) nd vr hd c0 sl) (hao : AsO as9) (hem : EmB pb B Ag pd m9 dp lw cs as9 hd sl []) (hrm : cs + 2 * tlE g q ≤ 9999) (hgr : rg ≤ 625 ∧ rg ≤ gr ∧ (rg = 625 ∨ rg = gr)) (hns : hd + ndE g q ≤ 41 + vr) (hsk : SkA K g (B 11) sz nd) (hlp : LpS K (B 16) (B 17) Ag pd lp9 lw cs hd sl hdL slL xb xc) (hrq : RgQx B Q9 gr nd) (hrL : ¬ as9 = -1 → rL) (hlr : LpR K lp9 rL) (hkj : K.2.1 0 q = 29 ∨ K.2.1 0 q = 30) (hO : OKP G h0 a (upd (upd (upd (upd (upd (upd (upd (upd F 2 (nI sz)) 5 (nI cs)) 6 (nI rg)) 7 (nI hd)) 8 (nI dp)) 12 (nI vr)) 13 as9) 16 ls9) (updR (updR (updR R 2 (.ref pq)) 3 (.ref mq)) 4 (va_rf lp9)) Z B J K w) (hl0 : l.stackTraces = false) : PBn l G pX0 yX0_jumpStatement cX0_jumpStatement 3 none ({ frames := (5 * n + 33), cells := 1, slots := 6, locals := (200 * n + 560) }) [.ref (a 4), .ref q] w (fun (v : Option Value) (u : va_W × (PK × (Nat → Nat → Int32) × Nat × Int32 × Int32 × Int32 × Nat × (Nat → AS) × Nat × Nat × Int32 × RX × (Nat → Prop) × List Nat × List Nat)) => v = none ∧ (SmW B u.2.2.1 cs) ∧ (BdE K u.2.1) ∧ (BeF K u.2.1) ∧ (BeL K u.2.1 lp9) ∧ (Bth B u.2.2.1) ∧ (BtR B u.2.2.1) ∧ (cs ≤ u.2.2.2.1 ∧ u.2.2.2.1 + 1 ≤ cs + 2 * tlE g q) ∧ (dp ≤ u.2.2.2.2.2.2.2.1 ∧ u.2.2.2.2.2.2.2.1 ≤ 71) ∧ (AsO u.2.2.2.2.1) ∧ (VrS B u.2.2.1 vr) ∧ (gr ≤ u.2.2.2.2.2.2.2.2.2.2.1 ∧ u.2.2.2.2.2.2.2.2.2.1 ≤ 625 ∧ u.2.2.2.2.2.2.2.2.2.1 ≤ u.2.2.2.2.2.2.2.2.2.2.1 ∧ (u.2.2.2.2.2.2.2.2.2.1 = 625 ∨ u.2.2.2.2.2.2.2.2.2.1 = u.2.2.2.2.2.2.2.2.2.2.1)) ∧ (EnV (u.2.2.1 26) (u.2.2.1 27) nd vr hd c0 sl) ∧ (StW pb.1 pb.2.1 pb.2.2.1 pb.2.2.2 Ag u.2.2.2.2.2.2.2.2.1 Q9 u.2.2.2.2.2.2.2.2.2.2.2.2.1 pd u.2.2.2.2.2.2.2.2.2.2.2.2.2.1 m9 u.2.2.2.2.2.2.2.1 lw cs u.2.2.2.1 as9 u.2.2.2.2.1 hd hd sl sl gr u.2.2.2.2.2.2.2.2.2.2.1 (u.2.2.1 16) (u.2.2.1 17) (u.2.2.1 18) (u.2.2.1 19) []) ∧ (LpS u.2.1 (u.2.2.1 16) (u.2.2.1 17) u.2.2.2.2.2.2.2.2.1 u.2.2.2.2.2.2.2.2.2.2.2.2.2.1 lp9 lw u.2.2.2.1 hd sl hdL slL u.2.2.2.2.2.2.2.2.2.2.2.2.2.2.1 u.2.2.2.2.2.2.2.2.2.2.2.2.2.2.2) ∧ (PdS pd u.2.2.2.2.2.2.2.2.2.2.2.2.2.1 xb u.2.2.2.2.2.2.2.2.2.2.2.2.2.2.1 xc u.2.2.2.2.2.2.2.2.2.2.2.2.2.2.2 [] cs u.2.2.2.1) ∧ (RgQx u.2.2.1 u.2.2.2.2.2.2.2.2.2.2.2.2.1 u.2.2.2.2.2.2.2.2.2.2.1 nd) ∧ (LpR u.2.1 lp9 rL) ∧ (OKP G h0 a (upd (upd (upd (upd (upd (upd (upd (upd (upd (upd F 2 (nI sz)) 5 (nI u.2.2.2.1)) 6 (nI u.2.2.2.2.2.2.2.2.2.1)) 7 (nI hd)) 8 (nI u.2.2.2.2.2.2.2.1)) 12 (nI vr)) 13 u.2.2.2.2.1) 14 u.2.2.2.2.2.1) 15 u.2.2.2.2.2.2.1) 16 u.2.2.2.2.2.2.2.2.2.2.2.1) (updR (updR (updR R 2 (.ref pq)) 3 (.ref mq)) 4 (va_rf lp9)) Z u.2.2.1 J u.2.1 u.1)) (fun u => u.1) (fun (u : va_W × (PK × (Nat → Nat → Int32) × Nat × Int32 × Int32 × Int32 × Nat × (Nat → AS) × Nat × Nat × Int32 × RX × (Nat → Prop) × List Nat × List Nat)) => 0) (fun (u : va_W × (PK × (Nat → Nat → Int32) × Nat × Int32 × Int32 × Int32 × Nat × (Nat → AS) × Nat × Nat × Int32 × RX × (Nat → Prop) × List Nat × List Nat)) => 0) (fun (u : va_W × (Nat → Int32) × (Nat → Value) × (Nat → Nat → Int32)) => ThQ G h0 a (upd (upd (upd (upd (upd (upd (upd (upd F 2 (nI sz)) 5 (nI cs)) 6 (nI rg)) 7 (nI hd)) 8 (nI dp)) 12 (nI vr)) 13 as9) 16 ls9) (updR (updR (updR R 2 (.ref pq)) 3 (.ref mq)) 4 (va_rf lp9)) Z B J u) (fun u => u.1) := by
  intro sz
  refine vx_ofW (cc := cX0_jumpStatement) (maxL := 3) (ret := none) (by decide) rfl ?_
  intro p e s m args below meth c s₁ B9 hml hnt hv
  obtain ⟨rfl, hsz, hP, hD0, hE, hX⟩ := hv
  have hx := B9.exec
  have hb := B9.bytes
  have hr := B9.returns
  have hts := atoms_spec (ws := Cond.code yX0_jumpStatement cX0_jumpStatement 3 none :: pw) B9.pre
  have hq : ∀ w ∈ pw, w.before _ s = true := fun w h => hts w (List.mem_cons_of_mem _ h)
  have hown : s.vm.findClass RX0 = some m.cls := findClass_of_methodNamed B9.named
  have hlocks := B9.notSynchronized
  subst hsz
  have hD := hD0.self (sz := s.heap.size)
  have hA : ∀ q : Nat, s.heap.size ≤ q → va_A w s.heap.size q := fun q h => Or.inr h
  generalize va_A w s.heap.size = A at hD hE hA ⊢
  have hS : va_S A s.heap s.heap [] := va_S.rf
  have hl := lv_entry ([.ref (a 4), .ref q]) (n := 3) (Nat.le_of_ble_eq_true rfl)
  rw [lg_entry_eq]
  generalize (lg_sl ([.ref (a 4), .ref q]) ++ List.replicate (3 - (lg_sl ([.ref (a 4), .ref q])).length) Slot.unset).toArray = ls at hl ⊢
  have hl : lv_has ls 3 [(0, .ref (a 4)), (1, .ref q)] := hl
  have hpg := hps.1
  have hp1 := hpg.1
  have hp2 := hpg.2.1
  have hp3 := hpg.2.2.1
  have hp4 := hpg.2.2.2.1
  have hp5 := hpg.2.2.2.2.1
  have hp6 := hpg.2.2.2.2.2.1
  have hp8 := hpg.2.2.2.2.2.2.2.1
  have hp9 := hpg.2.2.2.2.2.2.2.2
  have hdr0 : ¬ K.1 dr = 0 := by rw [hp4]; decide
  have hrl := hrv.1.lt hna.1.1
  have hskq := hsk q hqT hqL.1
  have htlq9 : tlE g q = rE (g 2 q) - rS (g 2 q) := rfl
  have hwfa : WfA (1, hd, sl, ([] : List Nat)) := hem.2.2.1
  have hhdp := hem.2.2.2.1
  have hloc := hem.2.1
  have hst0 : StW pb.1 pb.2.1 pb.2.2.1 pb.2.2.2 Ag Ag Q9 Q9 pd pd m9 dp lw cs cs as9 as9 hd hd sl sl gr gr (B 16) (B 17) (B 18) (B 19) ([] : List Nat) := StW.nil hem
  have hsk3 := hskq.2.2.2.2.2.2.1 hkj
  rcases lp9 with _ | lq
  · have hl : lv_has ls 3 [(0, .ref (a 4)), (1, .ref q)] := hl
    refine W.eq (g2 := F0 m 0 ls []) rfl ?_
    have hO : OKP G h0 a (upd (upd (upd (upd (upd (upd (upd (upd F 2 (nI sz)) 5 (nI cs)) 6 (nI rg)) 7 (nI hd)) 8 (nI dp)) 12 (nI vr)) 13 as9) 16 ls9) (updR (updR (updR R 2 (.ref pq)) 3 (.ref mq)) 4 (.null)) Z B J K w := hO.to rfl
    refine lv_aload_n hx hb dX0_jumpStatement_0 rfl (lv_at hl 0 rfl) ?_
    refine c_get (v := .null) (C := RX0) (Tc := TX0) (N := 13) (ci := 0) hx hb hq pin_wsX00 hown hE hP hO 24 (sg_24 G h0 a _ _ _ _ _) rfl 11 (by decide) (hq _ pw_73) (fun _ h9 => h9) rfl dX0_jumpStatement_1 ?_
    refine lv_ifnonnullN hx hb dX0_jumpStatement_4 ?_
    refine lv_aload_n hx hb dX0_jumpStatement_7 rfl (lv_at hl 0 rfl) ?_
    refine c_get (v := .ref (a 1)) (C := RX0) (Tc := TX0) (N := 13) (ci := 0) hx hb hq pin_wsX00 hown hE hP hO 24 (sg_24 G h0 a _ _ _ _ _) rfl 0 (by decide) (hq _ pw_4) (fun _ h9 => h9) rfl dX0_jumpStatement_8 ?_
    refine lv_bipush (v := 14) hx hb dX0_jumpStatement_11 (by decide) ?_
    refine lv_aload_n hx hb dX0_jumpStatement_13 rfl (lv_at hl 1 rfl) ?_
    refine p_get (v := .int (K.2.1 1 q)) (C := RX7) (Tc := TX7) (N := 11) (ci := 13) hx hb hq pin_wsX70 hown hE hP hO (by rw [hqT]; decide) (rep_1 hqT) rfl 1 (by decide) (hq _ pw_81) (fun _ h9 => h9) rfl dX0_jumpStatement_14 ?_
    have hO : OKW G h0 a (upd (upd (upd (upd (upd (upd (upd (upd (upd F 2 (nI sz)) 5 (nI cs)) 6 (nI rg)) 7 (nI hd)) 8 (nI dp)) 12 (nI vr)) 13 as9) 16 ls9) 2 (nI sz)) (updR (updR (updR R 2 (.ref pq)) 3 (.ref mq)) 4 (.null)) Z B J K.1 (fun q99 x99 => x99 = rep G a K q99) w := hO.to rfl
    obtain ⟨_, qr4, hqr5⟩ := hO.2.1 2 _ (sg_2 G h0 a _ _ _ _ _)
    refine pn_V0 (G := G) (As := [.int 14, .int (K.2.1 1 q)]) (rest := []) hx hb hml hown hq hE hX pX0_al hP hD hS hA hl.1 (K_fail l G h0 a (upd (upd (upd (upd (upd (upd (upd (upd F 2 (nI sz)) 5 (nI cs)) 6 (nI rg)) 7 (nI hd)) 8 (nI dp)) 12 (nI vr)) 13 as9) 16 ls9) (updR (updR (updR R 2 (.ref pq)) 3 (.ref mq)) 4 (.null)) Z B J K.1 (fun q99 x99 => x99 = rep G a K q99) w 14 (K.2.1 1 q) sz (by omega) hO hl0) (gV pw_64 pw_65 pw_66 pw_59 pw_43) hV_X10_fail qr4 7 hqr5 rfl rfl rfl (Nat.le_of_ble_eq_true rfl) dX0_jumpStatement_17 ⟨(by show 0 + 1 ≤ 1; omega), (by show 0 + 6 ≤ 6; omega)⟩ ⟨(by show 6 + 1 ≤ (5 * n + 33); omega), (by show 8 + (3 + 11) + 100 ≤ (200 * n + 560); omega)⟩ (fun v3 u1 H locs hw2 hP hD hS => hw2.elim) (fun ux ce9 q9 H9 locs9 hux hP9 hD9 hS9 hce hcv hcl => pb_out ux (ThQ.up (Thx.same Thx.rfl rfl) (show RhX (updR (updR (updR R 2 (.ref pq)) 3 (.ref mq)) 4 (va_rf none)) (updR (updR (updR R 2 (.ref pq)) 3 (.ref mq)) 4 (.null)) from fun k9 hk9 => by unfold updR; simp only [show ¬ k9 = 1 by omega, show ¬ k9 = 2 by omega, show ¬ k9 = 3 by omega, show ¬ k9 = 4 by omega, if_false]) hux) hnt hlocks hce hcv hcl hP9 hD9 hS9 (by show 0 + 1 ≤ 1; omega) (by show 0 + 6 ≤ 6; omega))
  · have hl : lv_has ls 3 [(0, .ref (a 4)), (1, .ref q)] := hl
    refine W.eq (g2 := F0 m 0 ls []) rfl ?_
    have hO : OKP G h0 a (upd (upd (upd (upd (upd (upd (upd (upd F 2 (nI sz)) 5 (nI cs)) 6 (nI rg)) 7 (nI hd)) 8 (nI dp)) 12 (nI vr)) 13 as9) 16 ls9) (updR (updR (updR R 2 (.ref pq)) 3 (.ref mq)) 4 (.ref lq)) Z B J K w := hO.to rfl
    have hlT := hlo lq rfl
    obtain ⟨hlc, hldis⟩ := hlp.2.2 lq rfl
    obtain ⟨hl1, hl2, hl3, hl4, hl5, hl6, hl7, hl8, hl9, hl10⟩ := hlc
    obtain ⟨xbv, hxbv⟩ : ∃ z : Int32, K.2.1 27 lq = z := ⟨_, rfl⟩
    obtain ⟨xcv, hxcv⟩ : ∃ z : Int32, K.2.1 28 lq = z := ⟨_, rfl⟩
    obtain ⟨bsv, hbsv⟩ : ∃ z : Int32, K.2.1 29 lq = z := ⟨_, rfl⟩
    obtain ⟨csv, hcsv⟩ : ∃ z : Int32, K.2.1 30 lq = z := ⟨_, rfl⟩
    rw [hxbv] at hl1
    rw [hxcv] at hl2
    rw [hbsv] at hl3 hl5
    rw [hcsv] at hl4 hl6
    refine lv_aload_n hx hb dX0_jumpStatement_0 rfl (lv_at hl 0 rfl) ?_
    refine c_get (v := .ref lq) (C := RX0) (Tc := TX0) (N := 13) (ci := 0) hx hb hq pin_wsX00 hown hE hP hO 24 (sg_24 G h0 a _ _ _ _ _) rfl 11 (by decide) (hq _ pw_73) (fun _ h9 => h9) rfl dX0_jumpStatement_1 ?_
    refine lv_ifnonnull (tgt := 21) hx hb dX0_jumpStatement_4 (by decide) ?_
    refine lv_aload_n hx hb dX0_jumpStatement_21 rfl (lv_at hl 0 rfl) ?_
    refine c_get (v := .int ls9) (C := RX0) (Tc := TX0) (N := 13) (ci := 0) hx hb hq pin_wsX00 hown hE hP hO 24 (sg_24 G h0 a _ _ _ _ _) rfl 12 (by decide) (hq _ pw_74) (fun _ h9 => h9) rfl dX0_jumpStatement_22 ?_
    refine lv_aload_n hx hb dX0_jumpStatement_25 rfl (lv_at hl 0 rfl) ?_
    refine c_get (v := .ref lq) (C := RX0) (Tc := TX0) (N := 13) (ci := 0) hx hb hq pin_wsX00 hown hE hP hO 24 (sg_24 G h0 a _ _ _ _ _) rfl 11 (by decide) (hq _ pw_73) (fun _ h9 => h9) rfl dX0_jumpStatement_26 ?_
    refine p_get (v := .int (K.2.1 26 lq)) (C := RX4) (Tc := TX4) (N := 6) (ci := 11) hx hb hq pin_wsX40 hown hE hP hO (by rw [hlT]; decide) (rep_9 hlT) rfl 1 (by decide) (hq _ pw_281) (fun _ h9 => h9) rfl dX0_jumpStatement_29 ?_
    refine lv_icmp_le (tgt := 40) hx hb dX0_jumpStatement_32 (by decide) (fun c6 => ?_) (fun c6 => ?_)
    · refine lv_bipush (v := 6) hx hb dX0_jumpStatement_40 (by decide) ?_
      refine lv_istore_n (lv' := [(2, .int 6), (0, .ref (a 4)), (1, .ref q)]) hx hb dX0_jumpStatement_42 rfl hl (by decide) rfl (fun ls hl => ?_)
      refine lv_aload_n hx hb dX0_jumpStatement_43 rfl (lv_at hl 2 rfl) ?_
      refine p_get (v := .int (K.2.1 0 q)) (C := RX7) (Tc := TX7) (N := 11) (ci := 13) hx hb hq pin_wsX70 hown hE hP hO (by rw [hqT]; decide) (rep_1 hqT) rfl 0 (by decide) (hq _ pw_166) (fun _ h9 => h9) rfl dX0_jumpStatement_44 ?_
      refine lv_bipush (v := 29) hx hb dX0_jumpStatement_47 (by decide) ?_
      refine lv_icmp_ne (tgt := 94) hx hb dX0_jumpStatement_49 (by decide) (fun c7 => ?_) (fun c7 => ?_)
      · refine lv_aload_n hx hb dX0_jumpStatement_94 rfl (lv_at hl 1 rfl) ?_
        refine c_get (v := .ref lq) (C := RX0) (Tc := TX0) (N := 13) (ci := 0) hx hb hq pin_wsX00 hown hE hP hO 24 (sg_24 G h0 a _ _ _ _ _) rfl 11 (by decide) (hq _ pw_73) (fun _ h9 => h9) rfl dX0_jumpStatement_95 ?_
        refine lv_aload_n hx hb dX0_jumpStatement_98 rfl (lv_at hl 1 rfl) ?_
        refine c_get (v := .ref (a 2)) (C := RX0) (Tc := TX0) (N := 13) (ci := 0) hx hb hq pin_wsX00 hown hE hP hO 24 (sg_24 G h0 a _ _ _ _ _) rfl 1 (by decide) (hq _ pw_5) (fun _ h9 => h9) rfl dX0_jumpStatement_99 ?_
        refine lv_iload_n hx hb dX0_jumpStatement_102 rfl (lv_at hl 0 rfl) ?_
        refine lv_aload_n hx hb dX0_jumpStatement_103 rfl (lv_at hl 1 rfl) ?_
        refine c_get (v := .ref lq) (C := RX0) (Tc := TX0) (N := 13) (ci := 0) hx hb hq pin_wsX00 hown hE hP hO 24 (sg_24 G h0 a _ _ _ _ _) rfl 11 (by decide) (hq _ pw_73) (fun _ h9 => h9) rfl dX0_jumpStatement_104 ?_
        refine p_get (v := .int xcv) (C := RX4) (Tc := TX4) (N := 6) (ci := 11) hx hb hq pin_wsX40 hown hE hP hO (by rw [hlT]; decide) (rep_9 hlT) rfl 3 (by decide) (hq _ pw_284) (fun _ h9 => h9) (congrArg (fun z => some (Value.int z)) hxcv) dX0_jumpStatement_107 ?_
        refine lv_iconst (v := 0) hx hb dX0_jumpStatement_110 (by decide) ?_
        have hO : OKW G h0 a (upd (upd (upd (upd (upd (upd (upd (upd (upd (upd F 2 (nI sz)) 5 (nI cs)) 6 (nI rg)) 7 (nI hd)) 8 (nI dp)) 12 (nI vr)) 13 as9) 16 ls9) 5 (nI cs)) 7 (nI hd)) (updR (updR (updR R 2 (.ref pq)) 3 (.ref mq)) 4 (.ref lq)) Z B J K.1 (fun q99 x99 => x99 = rep G a K q99) w := hO.to rfl
        obtain ⟨_, qr11, hqr12⟩ := hO.2.1 13 _ (sg_13 G h0 a _ _ _ _ _)
        refine pc_V0 (G := G) (As := [.int 6, .int xcv, .int 0]) (rest := [.ref lq]) hx hb hml hown hq hE hX pX0_al hP hD hS hA hl.1 (Y_jump l G h0 a (upd (upd (upd (upd (upd (upd (upd (upd F 2 (nI sz)) 5 (nI cs)) 6 (nI rg)) 7 (nI hd)) 8 (nI dp)) 12 (nI vr)) 13 as9) 16 ls9) (updR (updR (updR R 2 (.ref pq)) 3 (.ref mq)) 4 (.ref lq)) Z B J K.1 (fun q99 x99 => x99 = rep G a K q99) w 6 xcv 0 cs hd (by omega) hO) (gV pw_197 pw_198 pw_199 pw_70 pw_132) hV_X1_jump qr11 1 hqr12 rfl rfl rfl (Nat.le_of_ble_eq_true rfl) dX0_jumpStatement_111 ⟨(by show 0 + 0 ≤ 1; omega), (by show 0 + 0 ≤ 6; omega)⟩ ⟨(by show 3 + 1 ≤ (5 * n + 33); omega), (by show 8 + (4 + 11) + 83 ≤ (200 * n + 560); omega)⟩ (fun v10 u8 H locs hw9 hP hD hS => ?_)
        obtain ⟨w, _⟩ := u8
        obtain ⟨hw9, hO⟩ := hw9
        obtain rfl : v10 = some (.int (nI cs)) := hw9
        have hO : OKP G h0 a (upd (upd (upd (upd (upd (upd (upd (upd F 2 (nI sz)) 5 (nI (cs + 1))) 6 (nI rg)) 7 (nI hd)) 8 (nI dp)) 12 (nI vr)) 13 as9) 16 ls9) (updR (updR (updR R 2 (.ref pq)) 3 (.ref mq)) 4 (.ref lq)) Z (updA (updA (updA (updA B 16 (upd ((B 16)) cs 6)) 17 (upd ((B 17)) cs xcv)) 18 (upd ((B 18)) cs 0)) 19 (upd ((B 19)) cs (nI hd))) J K w := hO.to rfl
        refine W.widen (k := 0) (n := 0) (Nat.le_of_ble_eq_true rfl) (Nat.le_of_ble_eq_true rfl) ?_
        refine W.eq (g2 := F0 m 114 ls [.int (nI cs), .ref lq]) rfl ?_
        have hsw13 : ∀ x9 : Nat, x9 < cs → (upd ((B 16)) cs 6) x9 = B 16 x9 := fun x9 hx9 => (if_neg (by omega)).trans ((fun _ _ => rfl) x9 hx9)
        have hsw14 : ∀ x9 : Nat, x9 < cs → (upd ((B 17)) cs xcv) x9 = B 17 x9 := fun x9 hx9 => (if_neg (by omega)).trans ((fun _ _ => rfl) x9 hx9)
        have hsw15 : ∀ x9 : Nat, x9 < cs → (upd ((B 18)) cs 0) x9 = B 18 x9 := fun x9 hx9 => (if_neg (by omega)).trans ((fun _ _ => rfl) x9 hx9)
        have hsw16 : ∀ x9 : Nat, x9 < cs → (upd ((B 19)) cs (nI hd)) x9 = B 19 x9 := fun x9 hx9 => (if_neg (by omega)).trans ((fun _ _ => rfl) x9 hx9)
        obtain ⟨Ag17, hst18, hag19⟩ : ∃ A5 : Nat → AS, StW pb.1 pb.2.1 pb.2.2.1 pb.2.2.2 Ag A5 Q9 Q9 pd (fun z => pd z ∨ z = cs) m9 dp lw cs (cs + 1) as9 (-1) hd hd sl sl gr gr (upd ((B 16)) cs 6) (upd ((B 17)) cs xcv) (upd ((B 18)) cs 0) (upd ((B 19)) cs (nI hd)) ([] : List Nat) ∧ ∀ x9 : Nat, x9 ≤ cs → A5 x9 = Ag x9 := ⟨(upS Ag (cs + 1) (rcA (-1), hd, sl, ([] : List Nat))), StW.jmp (k := 6) hst0 (Nat.zero_le _) (by decide) (fun z9 hz9 => ⟨fun h9 => Or.inl h9, fun h9 => h9.resolve_right (by omega)⟩) (Or.inr rfl) (fun z9 => absurd rfl z9), fun x9 hx9 => upS_ne (by omega)⟩
        have hng20 : Nng (upd ((B 18)) cs 0) := Nng.set hng (k := 0) (by omega)
        refine p_put (v := .int (nI cs)) (ty := .int) (C := RX4) (Tc := TX4) (N := 6) (ci := 11) (K' := (kI K 28 lq (nI cs))) hx hb hq pin_wsX40 tyX4 tyX4_ok nmX4 hown hE hP hD hS hO (by rw [hlT]; decide) (rep_9 hlT) rfl 3 (by decide) (hq _ pw_284) (fun _ h9 => h9) rfl (by decide +kernel) rfl rfl (Nat.le_of_ble_eq_true rfl) rfl (by rw [rep_9 (show (kI K 28 lq (nI cs)).1 lq = 9 from hlT), pi_28] <;> rfl) (fun p9 hp9 => rep_kI hp9) dX0_jumpStatement_114 (fun H locs w hP hD hS hO => ?_)
        obtain ⟨K21, hK22⟩ : ∃ z : PK, z = (kI K 28 lq (nI cs)) := ⟨_, rfl⟩
        rw [← hK22] at hO
        have hf23 : K21.1 pq = 7 := (by rw [hK22]; exact hp1)
        have hf24 : K21.2.2.1 18 pq = some (a 1) := (by rw [hK22]; exact hp2)
        have hf25 : K21.2.2.1 14 pq = some dr := (by rw [hK22]; exact hp3)
        have hf26 : K21.1 dr = 8 := (by rw [hK22]; exact hp4)
        have hf27 : K21.2.2.1 15 pq = some ml := (by rw [hK22]; exact hp5)
        have hf28 : K21.1 ml = 5 := (by rw [hK22]; exact hp6)
        have hf29 : K21.2.1 24 pq = (nI nd) := (by rw [hK22]; exact (kI_of (by decide)).trans hp8)
        have hf30 : K21.1 q = 1 := (by rw [hK22]; exact hqT)
        have hf31 : K21.1 mq = 3 := (by rw [hK22]; exact hmq)
        have hf32 : K21.2.1 10 mq = (nI rt) := (by rw [hK22]; exact (kI_of (by decide)).trans hrt)
        have hf33 : K21.1 lq = 9 := (by rw [hK22]; exact hlT)
        have hf34 : K21.2.1 27 lq = xbv := (by rw [hK22]; exact (kI_of (by decide)).trans hxbv)
        have hf35 : K21.2.1 29 lq = bsv := (by rw [hK22]; exact (kI_of (by decide)).trans hbsv)
        have hf36 : K21.2.1 30 lq = csv := (by rw [hK22]; exact (kI_of (by decide)).trans hcsv)
        have hf37 : K21.2.1 28 lq = (nI cs) := by rw [hK22]; exact kI_eq
        have hbe41 : BdE K K21 := by rw [hK22]; exact BdE.kI (Or.inr (by decide))
        have hbe38 : BdE K K21 := BdE.trans BdE.rfl hbe41
        have hbl39 : BeL K K21 (some lq) := BeL.trans BeL.rfl (by rw [hK22]; exact BeL.own) BdE.rfl
        have hbf40 : BeF K K21 := BeF.trans BeF.rfl (by rw [hK22]; exact BeF.oth (by decide)) BdE.rfl
        refine lv_aload_n hx hb dX0_jumpStatement_117 rfl (lv_at hl 1 rfl) ?_
        refine c_get (v := .ref lq) (C := RX0) (Tc := TX0) (N := 13) (ci := 0) hx hb hq pin_wsX00 hown hE hP hO 24 (sg_24 G h0 a _ _ _ _ _) rfl 11 (by decide) (hq _ pw_73) (fun _ h9 => h9) rfl dX0_jumpStatement_118 ?_
        refine lv_dup hx hb dX0_jumpStatement_121 rfl ?_
        refine p_get (v := .int csv) (C := RX4) (Tc := TX4) (N := 6) (ci := 11) hx hb hq pin_wsX40 hown hE hP hO (by rw [hf33]; decide) (rep_9 hf33) rfl 5 (by decide) (hq _ pw_285) (fun _ h9 => h9) (congrArg (fun z => some (Value.int z)) hf36) dX0_jumpStatement_122 ?_
        refine lv_aload_n hx hb dX0_jumpStatement_125 rfl (lv_at hl 1 rfl) ?_
        refine c_get (v := .int as9) (C := RX0) (Tc := TX0) (N := 13) (ci := 0) hx hb hq pin_wsX00 hown hE hP hO 24 (sg_24 G h0 a _ _ _ _ _) rfl 8 (by decide) (hq _ pw_55) (fun _ h9 => h9) rfl dX0_jumpStatement_126 ?_
        refine lv_iand hx hb dX0_jumpStatement_129 ?_
        refine lv_topi (fun x42 e43 => ?_)
        obtain rfl : x42 = (csv &&& as9) := e43
        refine p_put (v := .int (csv &&& as9)) (ty := .int) (C := RX4) (Tc := TX4) (N := 6) (ci := 11) (K' := (kI K21 30 lq (csv &&& as9))) hx hb hq pin_wsX40 tyX4 tyX4_ok nmX4 hown hE hP hD hS hO (by rw [hf33]; decide) (rep_9 hf33) rfl 5 (by decide) (hq _ pw_285) (fun _ h9 => h9) rfl (by decide +kernel) rfl rfl (Nat.le_of_ble_eq_true rfl) rfl (by rw [rep_9 (show (kI K21 30 lq (csv &&& as9)).1 lq = 9 from hf33), pi_30] <;> rfl) (fun p9 hp9 => rep_kI hp9) dX0_jumpStatement_130 (fun H locs w hP hD hS hO => ?_)
        obtain ⟨K44, hK45⟩ : ∃ z : PK, z = (kI K21 30 lq (csv &&& as9)) := ⟨_, rfl⟩
        rw [← hK45] at hO
        have hf46 : K44.1 pq = 7 := (by rw [hK45]; exact hf23)
        have hf47 : K44.2.2.1 18 pq = some (a 1) := (by rw [hK45]; exact hf24)
        have hf48 : K44.2.2.1 14 pq = some dr := (by rw [hK45]; exact hf25)
        have hf49 : K44.1 dr = 8 := (by rw [hK45]; exact hf26)
        have hf50 : K44.2.2.1 15 pq = some ml := (by rw [hK45]; exact hf27)
        have hf51 : K44.1 ml = 5 := (by rw [hK45]; exact hf28)
        have hf52 : K44.2.1 24 pq = (nI nd) := (by rw [hK45]; exact (kI_of (by decide)).trans hf29)
        have hf53 : K44.1 q = 1 := (by rw [hK45]; exact hf30)
        have hf54 : K44.1 mq = 3 := (by rw [hK45]; exact hf31)
        have hf55 : K44.2.1 10 mq = (nI rt) := (by rw [hK45]; exact (kI_of (by decide)).trans hf32)
        have hf56 : K44.1 lq = 9 := (by rw [hK45]; exact hf33)
        have hf57 : K44.2.1 27 lq = xbv := (by rw [hK45]; exact (kI_of (by decide)).trans hf34)
        have hf58 : K44.2.1 29 lq = bsv := (by rw [hK45]; exact (kI_of (by decide)).trans hf35)
        have hf59 : K44.2.1 28 lq = (nI cs) := (by rw [hK45]; exact (kI_of (by decide)).trans hf37)
        have hf60 : K44.2.1 30 lq = (csv &&& as9) := by rw [hK45]; exact kI_eq
        have hbe64 : BdE K21 K44 := by rw [hK45]; exact BdE.kI (Or.inr (by decide))
        have hbe61 : BdE K K44 := BdE.trans hbe38 hbe64
        have hbl62 : BeL K K44 (some lq) := BeL.trans hbl39 (by rw [hK45]; exact BeL.own) hbe38
        have hbf63 : BeF K K44 := BeF.trans hbf40 (by rw [hK45]; exact BeF.oth (by decide)) hbe38
        refine lv_aload_n hx hb dX0_jumpStatement_133 rfl (lv_at hl 1 rfl) ?_
        refine lv_iconst (v := (-1)) hx hb dX0_jumpStatement_134 (by decide) ?_
        refine c_put (v := .int (-1)) (ty := .int) (C := RX0) (Tc := TX0) (N := 13) (ci := 0) hx hb hq pin_wsX00 tyX0 tyX0_ok nmX0 hown hE hP hD hS hO 24 (sg_24 G h0 a _ _ _ _ _) rfl 8 (by decide) (hq _ pw_55) (fun _ h9 => h9) rfl (by decide +kernel) rfl rfl (Nat.le_of_ble_eq_true rfl) (sf_13 G h0 a _ _ _ _ _ (-1)) dX0_jumpStatement_135 (fun H locs w hP hD hS hO => ?_)
        refine W_size (fun hz1 hz2 => ?_)
        refine vx_ret ?_
        have hcb : ∀ y9 : Nat, y9 ∈ xb → y9 < cs := fun y9 hy9 => (hl3 y9 hy9).2.1
        have hcc : ∀ y9 : Nat, y9 ∈ xc → y9 < cs := fun y9 hy9 => (hl4 y9 hy9).2.1
        have hagc : Ag17 cs = (rcA as9, hd, sl, ([] : List Nat)) := (hag19 cs (Nat.le_refl _)).trans hem.1.2
        have hlpz : LpS K44 (upd ((B 16)) cs 6) (upd ((B 17)) cs xcv) Ag17 (fun z => pd z ∨ z = cs) (some lq) lw (cs + 1) hd sl hdL slL xb (cs :: xc) := ⟨fun z9 h9 => h9.elim (fun h8 => Nat.lt_succ_of_lt (hlp.1 z9 h8)) (fun h8 => by omega), fun e9 => (by cases e9), fun lq9 e9 => by cases e9; exact ⟨⟨(by rw [hf57]; exact (ChnJ.same hl1 (fun y9 hy9 => if_neg (by have z9 := hcb y9 hy9; omega)))), (by rw [hf59]; exact (ChnJ.emit hl2 (by omega) hcc)), (by rw [hf58]; exact (LpJ.same hl3 (fun z9 hz9 => ⟨if_neg (by omega), hag19 z9 (by omega)⟩) (by omega))), (by rw [hf60]; exact (LpJ.cons (cs := cs) (bs := csv) hl4 ⟨by omega, by omega, Or.inl (if_pos rfl), fun z9 => by rw [hagc] at z9 ⊢; exact ⟨and_n2 (rcA_of z9), hl9, fun s9 hs9 => hl10 s9 hs9, rfl⟩⟩ (fun z9 hz9 => ⟨if_neg (by omega), hag19 z9 (by omega)⟩) (by omega) (fun z9 => and_n1 z9))), (by rw [hf58]; exact hl5), (by rw [hf60]; exact (AsO.and hl6 hao)), (fun z9 hz9 => Or.inl (hl7 z9 hz9)), (fun z9 hz9 => by rcases List.mem_cons.mp hz9 with e9 | e9; exact Or.inr e9; exact Or.inl (hl8 z9 e9)), hl9, hl10⟩, (fun z9 hz9 q9 => by rcases List.mem_cons.mp q9 with e9 | e9; (rw [e9] at hz9; exact absurd (hcb cs hz9) (by omega)); exact hldis z9 hz9 e9)⟩⟩
        have hpdz : PdS pd (fun z => pd z ∨ z = cs) xb xb xc (cs :: xc) ([] : List Nat) cs (cs + 1) := ⟨fun _ h9 => Or.inl h9, fun z9 h9 => h9.elim Or.inl (fun h8 => Or.inr (Or.inr (Or.inl (by rw [h8]; exact List.mem_cons_self ..)))), (fun _ h9 => h9), (fun z9 hz9 => List.mem_cons_of_mem _ hz9), (fun _ h9 => Or.inl h9), (fun z9 hz9 => by rcases List.mem_cons.mp hz9 with e9 | e9; exact Or.inr (by omega); exact Or.inl e9), fun z9 hz9 => absurd hz9 (List.not_mem_nil)⟩
        have hlrz : LpR K44 (some lq) rL := fun l9 e9 => by cases e9; have z9 := hlr lq rfl; rw [hbsv, hcsv] at z9; rw [hf58, hf60]; exact ⟨z9.1, (fun y9 => Classical.byContradiction fun v9 => y9 (and_m1.mpr ⟨Classical.byContradiction fun u9 => v9 (z9.2 u9), Classical.byContradiction fun u9 => v9 (hrL u9)⟩))⟩
        have hz65 : SmW B (updA (updA (updA (updA B 16 (upd ((B 16)) cs 6)) 17 (upd ((B 17)) cs xcv)) 18 (upd ((B 18)) cs 0)) 19 (upd ((B 19)) cs (nI hd))) cs := (fun x9 hx9 => ⟨hsw13 x9 hx9, hsw14 x9 hx9, hsw15 x9 hx9, hsw16 x9 hx9⟩)
        have hz66 : BdE K K44 := hbe61
        have hz67 : BeF K K44 := hbf63
        have hz68 : BeL K K44 (some lq) := hbl62
        have hz69 : Bth B (updA (updA (updA (updA B 16 (upd ((B 16)) cs 6)) 17 (upd ((B 17)) cs xcv)) 18 (upd ((B 18)) cs 0)) 19 (upd ((B 19)) cs (nI hd))) := (show Thx (upd (upd (upd (upd (upd (upd (upd (upd F 2 (nI sz)) 5 (nI cs)) 6 (nI rg)) 7 (nI hd)) 8 (nI dp)) 12 (nI vr)) 13 as9) 16 ls9) (upd (upd (upd (upd (upd (upd (upd (upd (upd (upd F 2 (nI sz)) 5 (nI cs)) 6 (nI rg)) 7 (nI hd)) 8 (nI dp)) 12 (nI vr)) 13 as9) 16 ls9) 5 (nI (cs + 1))) 13 (-1)) B (updA (updA (updA (updA B 16 (upd ((B 16)) cs 6)) 17 (upd ((B 17)) cs xcv)) 18 (upd ((B 18)) cs 0)) 19 (upd ((B 19)) cs (nI hd))) from (Thx.b (Thx.b8 (Thx.b (Thx.b (Thx.f (Thx.f Thx.rfl (by omega)) (by omega)) (by omega) (by decide)) (by omega) (by decide)) hng20) (by omega) (by decide))).2
        have hz70 : BtR B (updA (updA (updA (updA B 16 (upd ((B 16)) cs 6)) 17 (upd ((B 17)) cs xcv)) 18 (upd ((B 18)) cs 0)) 19 (upd ((B 19)) cs (nI hd))) := (BtR.up (BtR.up (BtR.up (BtR.up BtR.rfl (by omega)) (by omega)) (by omega)) (by omega))
        have hz71 : cs ≤ (cs + 1) ∧ (cs + 1) + 1 ≤ cs + 2 * tlE g q := (by omega)
        have hz72 : dp ≤ dp ∧ dp ≤ 71 := (by omega)
        have hz73 : AsO ((-1) : Int32) := AsO.m1
        have hz74 : VrS B (updA (updA (updA (updA B 16 (upd ((B 16)) cs 6)) 17 (upd ((B 17)) cs xcv)) 18 (upd ((B 18)) cs 0)) 19 (upd ((B 19)) cs (nI hd))) vr := VrS.rfl
        have hz75 : gr ≤ gr ∧ rg ≤ 625 ∧ rg ≤ gr ∧ (rg = 625 ∨ rg = gr) := (by omega)
        have hz76 : EnV ((updA (updA (updA (updA B 16 (upd ((B 16)) cs 6)) 17 (upd ((B 17)) cs xcv)) 18 (upd ((B 18)) cs 0)) 19 (upd ((B 19)) cs (nI hd))) 26) ((updA (updA (updA (updA B 16 (upd ((B 16)) cs 6)) 17 (upd ((B 17)) cs xcv)) 18 (upd ((B 18)) cs 0)) 19 (upd ((B 19)) cs (nI hd))) 27) nd vr hd c0 sl := hen
        have hz77 : StW pb.1 pb.2.1 pb.2.2.1 pb.2.2.2 Ag Ag17 Q9 Q9 pd (fun z => pd z ∨ z = cs) m9 dp lw cs (cs + 1) as9 ((-1) : Int32) hd hd sl sl gr gr ((updA (updA (updA (updA B 16 (upd ((B 16)) cs 6)) 17 (upd ((B 17)) cs xcv)) 18 (upd ((B 18)) cs 0)) 19 (upd ((B 19)) cs (nI hd))) 16) ((updA (updA (updA (updA B 16 (upd ((B 16)) cs 6)) 17 (upd ((B 17)) cs xcv)) 18 (upd ((B 18)) cs 0)) 19 (upd ((B 19)) cs (nI hd))) 17) ((updA (updA (updA (updA B 16 (upd ((B 16)) cs 6)) 17 (upd ((B 17)) cs xcv)) 18 (upd ((B 18)) cs 0)) 19 (upd ((B 19)) cs (nI hd))) 18) ((updA (updA (updA (updA B 16 (upd ((B 16)) cs 6)) 17 (upd ((B 17)) cs xcv)) 18 (upd ((B 18)) cs 0)) 19 (upd ((B 19)) cs (nI hd))) 19) [] := hst18
        have hz78 : LpS K44 ((updA (updA (updA (updA B 16 (upd ((B 16)) cs 6)) 17 (upd ((B 17)) cs xcv)) 18 (upd ((B 18)) cs 0)) 19 (upd ((B 19)) cs (nI hd))) 16) ((updA (updA (updA (updA B 16 (upd ((B 16)) cs 6)) 17 (upd ((B 17)) cs xcv)) 18 (upd ((B 18)) cs 0)) 19 (upd ((B 19)) cs (nI hd))) 17) Ag17 (fun z => pd z ∨ z = cs) (some lq) lw (cs + 1) hd sl hdL slL xb (cs :: xc) := hlpz
        have hz79 : PdS pd (fun z => pd z ∨ z = cs) xb xb xc (cs :: xc) [] cs (cs + 1) := hpdz
        have hz80 : RgQx (updA (updA (updA (updA B 16 (upd ((B 16)) cs 6)) 17 (upd ((B 17)) cs xcv)) 18 (upd ((B 18)) cs 0)) 19 (upd ((B 19)) cs (nI hd))) Q9 gr nd := hrq
        have hz81 : LpR K44 (some lq) rL := hlrz
        have hO : OKP G h0 a (upd (upd (upd (upd (upd (upd (upd (upd (upd (upd F 2 (nI sz)) 5 (nI (cs + 1))) 6 (nI rg)) 7 (nI hd)) 8 (nI dp)) 12 (nI vr)) 13 ((-1) : Int32)) 14 (F 14)) 15 (F 15)) 16 ls9) (updR (updR (updR R 2 (.ref pq)) 3 (.ref mq)) 4 (va_rf (some lq))) Z (updA (updA (updA (updA B 16 (upd ((B 16)) cs 6)) 17 (upd ((B 17)) cs xcv)) 18 (upd ((B 18)) cs 0)) 19 (upd ((B 19)) cs (nI hd))) J K44 w := hO.to rfl
        refine W.widen (k := 1) (n := 6) (by omega) (by omega) ?_
        have hzz1 : H.size ≤ s.heap.size + (0) := (by have z : 0 ≤ 0 := (by omega); omega)
        have hzz2 : hSl H ≤ hSl s.heap + (0) := (by have z : 0 ≤ 0 := (by omega); omega)
        exact W.vret hx hb hr (fun t99 ht99 hW99 => ⟨⟨_, (w, (K44, (updA (updA (updA (updA B 16 (upd ((B 16)) cs 6)) 17 (upd ((B 17)) cs xcv)) 18 (upd ((B 18)) cs 0)) 19 (upd ((B 19)) cs (nI hd))), (cs + 1), ((-1) : Int32), (F 14), (F 15), dp, Ag17, rg, gr, ls9, Q9, (fun z => pd z ∨ z = cs), xb, (cs :: xc))), rfl, ⟨rfl, hz65, hz66, hz67, hz68, hz69, hz70, hz71, hz72, hz73, hz74, hz75, hz76, hz77, hz78, hz79, hz80, hz81, hO⟩, by rw [ht99]; exact hP, hD, by rw [ht99]; exact hzz1, by rw [ht99]; exact hzz2⟩, hS.F ht99⟩) hS.2.2 dX0_jumpStatement_138
      · refine lv_aload_n hx hb dX0_jumpStatement_52 rfl (lv_at hl 1 rfl) ?_
        refine c_get (v := .ref lq) (C := RX0) (Tc := TX0) (N := 13) (ci := 0) hx hb hq pin_wsX00 hown hE hP hO 24 (sg_24 G h0 a _ _ _ _ _) rfl 11 (by decide) (hq _ pw_73) (fun _ h9 => h9) rfl dX0_jumpStatement_53 ?_
        refine lv_aload_n hx hb dX0_jumpStatement_56 rfl (lv_at hl 1 rfl) ?_
        refine c_get (v := .ref (a 2)) (C := RX0) (Tc := TX0) (N := 13) (ci := 0) hx hb hq pin_wsX00 hown hE hP hO 24 (sg_24 G h0 a _ _ _ _ _) rfl 1 (by decide) (hq _ pw_5) (fun _ h9 => h9) rfl dX0_jumpStatement_57 ?_
        refine lv_iload_n hx hb dX0_jumpStatement_60 rfl (lv_at hl 0 rfl) ?_
        refine lv_aload_n hx hb dX0_jumpStatement_61 rfl (lv_at hl 1 rfl) ?_
        refine c_get (v := .ref lq) (C := RX0) (Tc := TX0) (N := 13) (ci := 0) hx hb hq pin_wsX00 hown hE hP hO 24 (sg_24 G h0 a _ _ _ _ _) rfl 11 (by decide) (hq _ pw_73) (fun _ h9 => h9) rfl dX0_jumpStatement_62 ?_
        refine p_get (v := .int xbv) (C := RX4) (Tc := TX4) (N := 6) (ci := 11) hx hb hq pin_wsX40 hown hE hP hO (by rw [hlT]; decide) (rep_9 hlT) rfl 2 (by decide) (hq _ pw_282) (fun _ h9 => h9) (congrArg (fun z => some (Value.int z)) hxbv) dX0_jumpStatement_65 ?_
        refine lv_iconst (v := 0) hx hb dX0_jumpStatement_68 (by decide) ?_
        have hO : OKW G h0 a (upd (upd (upd (upd (upd (upd (upd (upd (upd (upd F 2 (nI sz)) 5 (nI cs)) 6 (nI rg)) 7 (nI hd)) 8 (nI dp)) 12 (nI vr)) 13 as9) 16 ls9) 5 (nI cs)) 7 (nI hd)) (updR (updR (updR R 2 (.ref pq)) 3 (.ref mq)) 4 (.ref lq)) Z B J K.1 (fun q99 x99 => x99 = rep G a K q99) w := hO.to rfl
        obtain ⟨_, qr85, hqr86⟩ := hO.2.1 13 _ (sg_13 G h0 a _ _ _ _ _)
        refine pc_V0 (G := G) (As := [.int 6, .int xbv, .int 0]) (rest := [.ref lq]) hx hb hml hown hq hE hX pX0_al hP hD hS hA hl.1 (Y_jump l G h0 a (upd (upd (upd (upd (upd (upd (upd (upd F 2 (nI sz)) 5 (nI cs)) 6 (nI rg)) 7 (nI hd)) 8 (nI dp)) 12 (nI vr)) 13 as9) 16 ls9) (updR (updR (updR R 2 (.ref pq)) 3 (.ref mq)) 4 (.ref lq)) Z B J K.1 (fun q99 x99 => x99 = rep G a K q99) w 6 xbv 0 cs hd (by omega) hO) (gV pw_197 pw_198 pw_199 pw_70 pw_132) hV_X1_jump qr85 1 hqr86 rfl rfl rfl (Nat.le_of_ble_eq_true rfl) dX0_jumpStatement_69 ⟨(by show 0 + 0 ≤ 1; omega), (by show 0 + 0 ≤ 6; omega)⟩ ⟨(by show 3 + 1 ≤ (5 * n + 33); omega), (by show 8 + (4 + 11) + 83 ≤ (200 * n + 560); omega)⟩ (fun v84 u82 H locs hw83 hP hD hS => ?_)
        obtain ⟨w, _⟩ := u82
        obtain ⟨hw83, hO⟩ := hw83
        obtain rfl : v84 = some (.int (nI cs)) := hw83
        have hO : OKP G h0 a (upd (upd (upd (upd (upd (upd (upd (upd F 2 (nI sz)) 5 (nI (cs + 1))) 6 (nI rg)) 7 (nI hd)) 8 (nI dp)) 12 (nI vr)) 13 as9) 16 ls9) (updR (updR (updR R 2 (.ref pq)) 3 (.ref mq)) 4 (.ref lq)) Z (updA (updA (updA (updA B 16 (upd ((B 16)) cs 6)) 17 (upd ((B 17)) cs xbv)) 18 (upd ((B 18)) cs 0)) 19 (upd ((B 19)) cs (nI hd))) J K w := hO.to rfl
        refine W.widen (k := 0) (n := 0) (Nat.le_of_ble_eq_true rfl) (Nat.le_of_ble_eq_true rfl) ?_
        refine W.eq (g2 := F0 m 72 ls [.int (nI cs), .ref lq]) rfl ?_
        have hsw87 : ∀ x9 : Nat, x9 < cs → (upd ((B 16)) cs 6) x9 = B 16 x9 := fun x9 hx9 => (if_neg (by omega)).trans ((fun _ _ => rfl) x9 hx9)
        have hsw88 : ∀ x9 : Nat, x9 < cs → (upd ((B 17)) cs xbv) x9 = B 17 x9 := fun x9 hx9 => (if_neg (by omega)).trans ((fun _ _ => rfl) x9 hx9)
        have hsw89 : ∀ x9 : Nat, x9 < cs → (upd ((B 18)) cs 0) x9 = B 18 x9 := fun x9 hx9 => (if_neg (by omega)).trans ((fun _ _ => rfl) x9 hx9)
        have hsw90 : ∀ x9 : Nat, x9 < cs → (upd ((B 19)) cs (nI hd)) x9 = B 19 x9 := fun x9 hx9 => (if_neg (by omega)).trans ((fun _ _ => rfl) x9 hx9)
        obtain ⟨Ag91, hst92, hag93⟩ : ∃ A5 : Nat → AS, StW pb.1 pb.2.1 pb.2.2.1 pb.2.2.2 Ag A5 Q9 Q9 pd (fun z => pd z ∨ z = cs) m9 dp lw cs (cs + 1) as9 (-1) hd hd sl sl gr gr (upd ((B 16)) cs 6) (upd ((B 17)) cs xbv) (upd ((B 18)) cs 0) (upd ((B 19)) cs (nI hd)) ([] : List Nat) ∧ ∀ x9 : Nat, x9 ≤ cs → A5 x9 = Ag x9 := ⟨(upS Ag (cs + 1) (rcA (-1), hd, sl, ([] : List Nat))), StW.jmp (k := 6) hst0 (Nat.zero_le _) (by decide) (fun z9 hz9 => ⟨fun h9 => Or.inl h9, fun h9 => h9.resolve_right (by omega)⟩) (Or.inr rfl) (fun z9 => absurd rfl z9), fun x9 hx9 => upS_ne (by omega)⟩
        have hng94 : Nng (upd ((B 18)) cs 0) := Nng.set hng (k := 0) (by omega)
        refine p_put (v := .int (nI cs)) (ty := .int) (C := RX4) (Tc := TX4) (N := 6) (ci := 11) (K' := (kI K 27 lq (nI cs))) hx hb hq pin_wsX40 tyX4 tyX4_ok nmX4 hown hE hP hD hS hO (by rw [hlT]; decide) (rep_9 hlT) rfl 2 (by decide) (hq _ pw_282) (fun _ h9 => h9) rfl (by decide +kernel) rfl rfl (Nat.le_of_ble_eq_true rfl) rfl (by rw [rep_9 (show (kI K 27 lq (nI cs)).1 lq = 9 from hlT), pi_27] <;> rfl) (fun p9 hp9 => rep_kI hp9) dX0_jumpStatement_72 (fun H locs w hP hD hS hO => ?_)
        obtain ⟨K95, hK96⟩ : ∃ z : PK, z = (kI K 27 lq (nI cs)) := ⟨_, rfl⟩
        rw [← hK96] at hO
        have hf97 : K95.1 pq = 7 := (by rw [hK96]; exact hp1)
        have hf98 : K95.2.2.1 18 pq = some (a 1) := (by rw [hK96]; exact hp2)
        have hf99 : K95.2.2.1 14 pq = some dr := (by rw [hK96]; exact hp3)
        have hf100 : K95.1 dr = 8 := (by rw [hK96]; exact hp4)
        have hf101 : K95.2.2.1 15 pq = some ml := (by rw [hK96]; exact hp5)
        have hf102 : K95.1 ml = 5 := (by rw [hK96]; exact hp6)
        have hf103 : K95.2.1 24 pq = (nI nd) := (by rw [hK96]; exact (kI_of (by decide)).trans hp8)
        have hf104 : K95.1 q = 1 := (by rw [hK96]; exact hqT)
        have hf105 : K95.1 mq = 3 := (by rw [hK96]; exact hmq)
        have hf106 : K95.2.1 10 mq = (nI rt) := (by rw [hK96]; exact (kI_of (by decide)).trans hrt)
        have hf107 : K95.1 lq = 9 := (by rw [hK96]; exact hlT)
        have hf108 : K95.2.1 28 lq = xcv := (by rw [hK96]; exact (kI_of (by decide)).trans hxcv)
        have hf109 : K95.2.1 29 lq = bsv := (by rw [hK96]; exact (kI_of (by decide)).trans hbsv)
        have hf110 : K95.2.1 30 lq = csv := (by rw [hK96]; exact (kI_of (by decide)).trans hcsv)
        have hf111 : K95.2.1 27 lq = (nI cs) := by rw [hK96]; exact kI_eq
        have hbe115 : BdE K K95 := by rw [hK96]; exact BdE.kI (Or.inr (by decide))
        have hbe112 : BdE K K95 := BdE.trans BdE.rfl hbe115
        have hbl113 : BeL K K95 (some lq) := BeL.trans BeL.rfl (by rw [hK96]; exact BeL.own) BdE.rfl
        have hbf114 : BeF K K95 := BeF.trans BeF.rfl (by rw [hK96]; exact BeF.oth (by decide)) BdE.rfl
        refine lv_aload_n hx hb dX0_jumpStatement_75 rfl (lv_at hl 1 rfl) ?_
        refine c_get (v := .ref lq) (C := RX0) (Tc := TX0) (N := 13) (ci := 0) hx hb hq pin_wsX00 hown hE hP hO 24 (sg_24 G h0 a _ _ _ _ _) rfl 11 (by decide) (hq _ pw_73) (fun _ h9 => h9) rfl dX0_jumpStatement_76 ?_
        refine lv_dup hx hb dX0_jumpStatement_79 rfl ?_
        refine p_get (v := .int bsv) (C := RX4) (Tc := TX4) (N := 6) (ci := 11) hx hb hq pin_wsX40 hown hE hP hO (by rw [hf107]; decide) (rep_9 hf107) rfl 4 (by decide) (hq _ pw_283) (fun _ h9 => h9) (congrArg (fun z => some (Value.int z)) hf109) dX0_jumpStatement_80 ?_
        refine lv_aload_n hx hb dX0_jumpStatement_83 rfl (lv_at hl 1 rfl) ?_
        refine c_get (v := .int as9) (C := RX0) (Tc := TX0) (N := 13) (ci := 0) hx hb hq pin_wsX00 hown hE hP hO 24 (sg_24 G h0 a _ _ _ _ _) rfl 8 (by decide) (hq _ pw_55) (fun _ h9 => h9) rfl dX0_jumpStatement_84 ?_
        refine lv_iand hx hb dX0_jumpStatement_87 ?_
        refine lv_topi (fun x116 e117 => ?_)
        obtain rfl : x116 = (bsv &&& as9) := e117
        refine p_put (v := .int (bsv &&& as9)) (ty := .int) (C := RX4) (Tc := TX4) (N := 6) (ci := 11) (K' := (kI K95 29 lq (bsv &&& as9))) hx hb hq pin_wsX40 tyX4 tyX4_ok nmX4 hown hE hP hD hS hO (by rw [hf107]; decide) (rep_9 hf107) rfl 4 (by decide) (hq _ pw_283) (fun _ h9 => h9) rfl (by decide +kernel) rfl rfl (Nat.le_of_ble_eq_true rfl) rfl (by rw [rep_9 (show (kI K95 29 lq (bsv &&& as9)).1 lq = 9 from hf107), pi_29] <;> rfl) (fun p9 hp9 => rep_kI hp9) dX0_jumpStatement_88 (fun H locs w hP hD hS hO => ?_)
        obtain ⟨K118, hK119⟩ : ∃ z : PK, z = (kI K95 29 lq (bsv &&& as9)) := ⟨_, rfl⟩
        rw [← hK119] at hO
        have hf120 : K118.1 pq = 7 := (by rw [hK119]; exact hf97)
        have hf121 : K118.2.2.1 18 pq = some (a 1) := (by rw [hK119]; exact hf98)
        have hf122 : K118.2.2.1 14 pq = some dr := (by rw [hK119]; exact hf99)
        have hf123 : K118.1 dr = 8 := (by rw [hK119]; exact hf100)
        have hf124 : K118.2.2.1 15 pq = some ml := (by rw [hK119]; exact hf101)
        have hf125 : K118.1 ml = 5 := (by rw [hK119]; exact hf102)
        have hf126 : K118.2.1 24 pq = (nI nd) := (by rw [hK119]; exact (kI_of (by decide)).trans hf103)
        have hf127 : K118.1 q = 1 := (by rw [hK119]; exact hf104)
        have hf128 : K118.1 mq = 3 := (by rw [hK119]; exact hf105)
        have hf129 : K118.2.1 10 mq = (nI rt) := (by rw [hK119]; exact (kI_of (by decide)).trans hf106)
        have hf130 : K118.1 lq = 9 := (by rw [hK119]; exact hf107)
        have hf131 : K118.2.1 28 lq = xcv := (by rw [hK119]; exact (kI_of (by decide)).trans hf108)
        have hf132 : K118.2.1 30 lq = csv := (by rw [hK119]; exact (kI_of (by decide)).trans hf110)
        have hf133 : K118.2.1 27 lq = (nI cs) := (by rw [hK119]; exact (kI_of (by decide)).trans hf111)
        have hf134 : K118.2.1 29 lq = (bsv &&& as9) := by rw [hK119]; exact kI_eq
        have hbe138 : BdE K95 K118 := by rw [hK119]; exact BdE.kI (Or.inr (by decide))
        have hbe135 : BdE K K118 := BdE.trans hbe112 hbe138
        have hbl136 : BeL K K118 (some lq) := BeL.trans hbl113 (by rw [hK119]; exact BeL.own) hbe112
        have hbf137 : BeF K K118 := BeF.trans hbf114 (by rw [hK119]; exact BeF.oth (by decide)) hbe112
        refine lv_goto (tgt := 133) hx hb dX0_jumpStatement_91 (by decide) ?_
        refine lv_aload_n hx hb dX0_jumpStatement_133 rfl (lv_at hl 1 rfl) ?_
        refine lv_iconst (v := (-1)) hx hb dX0_jumpStatement_134 (by decide) ?_
        refine c_put (v := .int (-1)) (ty := .int) (C := RX0) (Tc := TX0) (N := 13) (ci := 0) hx hb hq pin_wsX00 tyX0 tyX0_ok nmX0 hown hE hP hD hS hO 24 (sg_24 G h0 a _ _ _ _ _) rfl 8 (by decide) (hq _ pw_55) (fun _ h9 => h9) rfl (by decide +kernel) rfl rfl (Nat.le_of_ble_eq_true rfl) (sf_13 G h0 a _ _ _ _ _ (-1)) dX0_jumpStatement_135 (fun H locs w hP hD hS hO => ?_)
        refine W_size (fun hz1 hz2 => ?_)
        refine vx_ret ?_
        have hcb : ∀ y9 : Nat, y9 ∈ xb → y9 < cs := fun y9 hy9 => (hl3 y9 hy9).2.1
        have hcc : ∀ y9 : Nat, y9 ∈ xc → y9 < cs := fun y9 hy9 => (hl4 y9 hy9).2.1
        have hagc : Ag91 cs = (rcA as9, hd, sl, ([] : List Nat)) := (hag93 cs (Nat.le_refl _)).trans hem.1.2
        have hlpz : LpS K118 (upd ((B 16)) cs 6) (upd ((B 17)) cs xbv) Ag91 (fun z => pd z ∨ z = cs) (some lq) lw (cs + 1) hd sl hdL slL (cs :: xb) xc := ⟨fun z9 h9 => h9.elim (fun h8 => Nat.lt_succ_of_lt (hlp.1 z9 h8)) (fun h8 => by omega), fun e9 => (by cases e9), fun lq9 e9 => by cases e9; exact ⟨⟨(by rw [hf133]; exact (ChnJ.emit hl1 (by omega) hcb)), (by rw [hf131]; exact (ChnJ.same hl2 (fun y9 hy9 => if_neg (by have z9 := hcc y9 hy9; omega)))), (by rw [hf134]; exact (LpJ.cons (cs := cs) (bs := bsv) hl3 ⟨by omega, by omega, Or.inl (if_pos rfl), fun z9 => by rw [hagc] at z9 ⊢; exact ⟨and_n2 (rcA_of z9), hl9, fun s9 hs9 => hl10 s9 hs9, rfl⟩⟩ (fun z9 hz9 => ⟨if_neg (by omega), hag93 z9 (by omega)⟩) (by omega) (fun z9 => and_n1 z9))), (by rw [hf132]; exact (LpJ.same hl4 (fun z9 hz9 => ⟨if_neg (by omega), hag93 z9 (by omega)⟩) (by omega))), (by rw [hf134]; exact (AsO.and hl5 hao)), (by rw [hf132]; exact hl6), (fun z9 hz9 => by rcases List.mem_cons.mp hz9 with e9 | e9; exact Or.inr e9; exact Or.inl (hl7 z9 e9)), (fun z9 hz9 => Or.inl (hl8 z9 hz9)), hl9, hl10⟩, (fun z9 hz9 => by rcases List.mem_cons.mp hz9 with e9 | e9; (rw [e9]; exact fun q9 => absurd (hcc cs q9) (by omega)); exact hldis z9 e9)⟩⟩
        have hpdz : PdS pd (fun z => pd z ∨ z = cs) xb (cs :: xb) xc xc ([] : List Nat) cs (cs + 1) := ⟨fun _ h9 => Or.inl h9, fun z9 h9 => h9.elim Or.inl (fun h8 => Or.inr (Or.inl (by rw [h8]; exact List.mem_cons_self ..))), (fun z9 hz9 => List.mem_cons_of_mem _ hz9), (fun _ h9 => h9), (fun z9 hz9 => by rcases List.mem_cons.mp hz9 with e9 | e9; exact Or.inr (by omega); exact Or.inl e9), (fun _ h9 => Or.inl h9), fun z9 hz9 => absurd hz9 (List.not_mem_nil)⟩
        have hlrz : LpR K118 (some lq) rL := fun l9 e9 => by cases e9; have z9 := hlr lq rfl; rw [hbsv, hcsv] at z9; rw [hf134, hf132]; exact ⟨(fun y9 => Classical.byContradiction fun v9 => y9 (and_m1.mpr ⟨Classical.byContradiction fun u9 => v9 (z9.1 u9), Classical.byContradiction fun u9 => v9 (hrL u9)⟩)), z9.2⟩
        have hz139 : SmW B (updA (updA (updA (updA B 16 (upd ((B 16)) cs 6)) 17 (upd ((B 17)) cs xbv)) 18 (upd ((B 18)) cs 0)) 19 (upd ((B 19)) cs (nI hd))) cs := (fun x9 hx9 => ⟨hsw87 x9 hx9, hsw88 x9 hx9, hsw89 x9 hx9, hsw90 x9 hx9⟩)
        have hz140 : BdE K K118 := hbe135
        have hz141 : BeF K K118 := hbf137
        have hz142 : BeL K K118 (some lq) := hbl136
        have hz143 : Bth B (updA (updA (updA (updA B 16 (upd ((B 16)) cs 6)) 17 (upd ((B 17)) cs xbv)) 18 (upd ((B 18)) cs 0)) 19 (upd ((B 19)) cs (nI hd))) := (show Thx (upd (upd (upd (upd (upd (upd (upd (upd F 2 (nI sz)) 5 (nI cs)) 6 (nI rg)) 7 (nI hd)) 8 (nI dp)) 12 (nI vr)) 13 as9) 16 ls9) (upd (upd (upd (upd (upd (upd (upd (upd (upd (upd F 2 (nI sz)) 5 (nI cs)) 6 (nI rg)) 7 (nI hd)) 8 (nI dp)) 12 (nI vr)) 13 as9) 16 ls9) 5 (nI (cs + 1))) 13 (-1)) B (updA (updA (updA (updA B 16 (upd ((B 16)) cs 6)) 17 (upd ((B 17)) cs xbv)) 18 (upd ((B 18)) cs 0)) 19 (upd ((B 19)) cs (nI hd))) from (Thx.b (Thx.b8 (Thx.b (Thx.b (Thx.f (Thx.f Thx.rfl (by omega)) (by omega)) (by omega) (by decide)) (by omega) (by decide)) hng94) (by omega) (by decide))).2
        have hz144 : BtR B (updA (updA (updA (updA B 16 (upd ((B 16)) cs 6)) 17 (upd ((B 17)) cs xbv)) 18 (upd ((B 18)) cs 0)) 19 (upd ((B 19)) cs (nI hd))) := (BtR.up (BtR.up (BtR.up (BtR.up BtR.rfl (by omega)) (by omega)) (by omega)) (by omega))
        have hz145 : cs ≤ (cs + 1) ∧ (cs + 1) + 1 ≤ cs + 2 * tlE g q := (by omega)
        have hz146 : dp ≤ dp ∧ dp ≤ 71 := (by omega)
        have hz147 : AsO ((-1) : Int32) := AsO.m1
        have hz148 : VrS B (updA (updA (updA (updA B 16 (upd ((B 16)) cs 6)) 17 (upd ((B 17)) cs xbv)) 18 (upd ((B 18)) cs 0)) 19 (upd ((B 19)) cs (nI hd))) vr := VrS.rfl
        have hz149 : gr ≤ gr ∧ rg ≤ 625 ∧ rg ≤ gr ∧ (rg = 625 ∨ rg = gr) := (by omega)
        have hz150 : EnV ((updA (updA (updA (updA B 16 (upd ((B 16)) cs 6)) 17 (upd ((B 17)) cs xbv)) 18 (upd ((B 18)) cs 0)) 19 (upd ((B 19)) cs (nI hd))) 26) ((updA (updA (updA (updA B 16 (upd ((B 16)) cs 6)) 17 (upd ((B 17)) cs xbv)) 18 (upd ((B 18)) cs 0)) 19 (upd ((B 19)) cs (nI hd))) 27) nd vr hd c0 sl := hen
        have hz151 : StW pb.1 pb.2.1 pb.2.2.1 pb.2.2.2 Ag Ag91 Q9 Q9 pd (fun z => pd z ∨ z = cs) m9 dp lw cs (cs + 1) as9 ((-1) : Int32) hd hd sl sl gr gr ((updA (updA (updA (updA B 16 (upd ((B 16)) cs 6)) 17 (upd ((B 17)) cs xbv)) 18 (upd ((B 18)) cs 0)) 19 (upd ((B 19)) cs (nI hd))) 16) ((updA (updA (updA (updA B 16 (upd ((B 16)) cs 6)) 17 (upd ((B 17)) cs xbv)) 18 (upd ((B 18)) cs 0)) 19 (upd ((B 19)) cs (nI hd))) 17) ((updA (updA (updA (updA B 16 (upd ((B 16)) cs 6)) 17 (upd ((B 17)) cs xbv)) 18 (upd ((B 18)) cs 0)) 19 (upd ((B 19)) cs (nI hd))) 18) ((updA (updA (updA (updA B 16 (upd ((B 16)) cs 6)) 17 (upd ((B 17)) cs xbv)) 18 (upd ((B 18)) cs 0)) 19 (upd ((B 19)) cs (nI hd))) 19) [] := hst92
        have hz152 : LpS K118 ((updA (updA (updA (updA B 16 (upd ((B 16)) cs 6)) 17 (upd ((B 17)) cs xbv)) 18 (upd ((B 18)) cs 0)) 19 (upd ((B 19)) cs (nI hd))) 16) ((updA (updA (updA (updA B 16 (upd ((B 16)) cs 6)) 17 (upd ((B 17)) cs xbv)) 18 (upd ((B 18)) cs 0)) 19 (upd ((B 19)) cs (nI hd))) 17) Ag91 (fun z => pd z ∨ z = cs) (some lq) lw (cs + 1) hd sl hdL slL (cs :: xb) xc := hlpz
        have hz153 : PdS pd (fun z => pd z ∨ z = cs) xb (cs :: xb) xc xc [] cs (cs + 1) := hpdz
        have hz154 : RgQx (updA (updA (updA (updA B 16 (upd ((B 16)) cs 6)) 17 (upd ((B 17)) cs xbv)) 18 (upd ((B 18)) cs 0)) 19 (upd ((B 19)) cs (nI hd))) Q9 gr nd := hrq
        have hz155 : LpR K118 (some lq) rL := hlrz
        have hO : OKP G h0 a (upd (upd (upd (upd (upd (upd (upd (upd (upd (upd F 2 (nI sz)) 5 (nI (cs + 1))) 6 (nI rg)) 7 (nI hd)) 8 (nI dp)) 12 (nI vr)) 13 ((-1) : Int32)) 14 (F 14)) 15 (F 15)) 16 ls9) (updR (updR (updR R 2 (.ref pq)) 3 (.ref mq)) 4 (va_rf (some lq))) Z (updA (updA (updA (updA B 16 (upd ((B 16)) cs 6)) 17 (upd ((B 17)) cs xbv)) 18 (upd ((B 18)) cs 0)) 19 (upd ((B 19)) cs (nI hd))) J K118 w := hO.to rfl
        refine W.widen (k := 1) (n := 6) (by omega) (by omega) ?_
        have hzz1 : H.size ≤ s.heap.size + (0) := (by have z : 0 ≤ 0 := (by omega); omega)
        have hzz2 : hSl H ≤ hSl s.heap + (0) := (by have z : 0 ≤ 0 := (by omega); omega)
        exact W.vret hx hb hr (fun t99 ht99 hW99 => ⟨⟨_, (w, (K118, (updA (updA (updA (updA B 16 (upd ((B 16)) cs 6)) 17 (upd ((B 17)) cs xbv)) 18 (upd ((B 18)) cs 0)) 19 (upd ((B 19)) cs (nI hd))), (cs + 1), ((-1) : Int32), (F 14), (F 15), dp, Ag91, rg, gr, ls9, Q9, (fun z => pd z ∨ z = cs), (cs :: xb), xc)), rfl, ⟨rfl, hz139, hz140, hz141, hz142, hz143, hz144, hz145, hz146, hz147, hz148, hz149, hz150, hz151, hz152, hz153, hz154, hz155, hO⟩, by rw [ht99]; exact hP, hD, by rw [ht99]; exact hzz1, by rw [ht99]; exact hzz2⟩, hS.F ht99⟩) hS.2.2 dX0_jumpStatement_138
    · refine lv_bipush (v := 28) hx hb dX0_jumpStatement_35 (by decide) ?_
      refine lv_goto (tgt := 42) hx hb dX0_jumpStatement_37 (by decide) ?_
      refine lv_istore_n (lv' := [(2, .int 28), (0, .ref (a 4)), (1, .ref q)]) hx hb dX0_jumpStatement_42 rfl hl (by decide) rfl (fun ls hl => ?_)
      refine lv_aload_n hx hb dX0_jumpStatement_43 rfl (lv_at hl 2 rfl) ?_
      refine p_get (v := .int (K.2.1 0 q)) (C := RX7) (Tc := TX7) (N := 11) (ci := 13) hx hb hq pin_wsX70 hown hE hP hO (by rw [hqT]; decide) (rep_1 hqT) rfl 0 (by decide) (hq _ pw_166) (fun _ h9 => h9) rfl dX0_jumpStatement_44 ?_
      refine lv_bipush (v := 29) hx hb dX0_jumpStatement_47 (by decide) ?_
      refine lv_icmp_ne (tgt := 94) hx hb dX0_jumpStatement_49 (by decide) (fun c156 => ?_) (fun c156 => ?_)
      · refine lv_aload_n hx hb dX0_jumpStatement_94 rfl (lv_at hl 1 rfl) ?_
        refine c_get (v := .ref lq) (C := RX0) (Tc := TX0) (N := 13) (ci := 0) hx hb hq pin_wsX00 hown hE hP hO 24 (sg_24 G h0 a _ _ _ _ _) rfl 11 (by decide) (hq _ pw_73) (fun _ h9 => h9) rfl dX0_jumpStatement_95 ?_
        refine lv_aload_n hx hb dX0_jumpStatement_98 rfl (lv_at hl 1 rfl) ?_
        refine c_get (v := .ref (a 2)) (C := RX0) (Tc := TX0) (N := 13) (ci := 0) hx hb hq pin_wsX00 hown hE hP hO 24 (sg_24 G h0 a _ _ _ _ _) rfl 1 (by decide) (hq _ pw_5) (fun _ h9 => h9) rfl dX0_jumpStatement_99 ?_
        refine lv_iload_n hx hb dX0_jumpStatement_102 rfl (lv_at hl 0 rfl) ?_
        refine lv_aload_n hx hb dX0_jumpStatement_103 rfl (lv_at hl 1 rfl) ?_
        refine c_get (v := .ref lq) (C := RX0) (Tc := TX0) (N := 13) (ci := 0) hx hb hq pin_wsX00 hown hE hP hO 24 (sg_24 G h0 a _ _ _ _ _) rfl 11 (by decide) (hq _ pw_73) (fun _ h9 => h9) rfl dX0_jumpStatement_104 ?_
        refine p_get (v := .int xcv) (C := RX4) (Tc := TX4) (N := 6) (ci := 11) hx hb hq pin_wsX40 hown hE hP hO (by rw [hlT]; decide) (rep_9 hlT) rfl 3 (by decide) (hq _ pw_284) (fun _ h9 => h9) (congrArg (fun z => some (Value.int z)) hxcv) dX0_jumpStatement_107 ?_
        refine lv_iconst (v := 0) hx hb dX0_jumpStatement_110 (by decide) ?_
        have hO : OKW G h0 a (upd (upd (upd (upd (upd (upd (upd (upd (upd (upd F 2 (nI sz)) 5 (nI cs)) 6 (nI rg)) 7 (nI hd)) 8 (nI dp)) 12 (nI vr)) 13 as9) 16 ls9) 5 (nI cs)) 7 (nI hd)) (updR (updR (updR R 2 (.ref pq)) 3 (.ref mq)) 4 (.ref lq)) Z B J K.1 (fun q99 x99 => x99 = rep G a K q99) w := hO.to rfl
        obtain ⟨_, qr160, hqr161⟩ := hO.2.1 13 _ (sg_13 G h0 a _ _ _ _ _)
        refine pc_V0 (G := G) (As := [.int 28, .int xcv, .int 0]) (rest := [.ref lq]) hx hb hml hown hq hE hX pX0_al hP hD hS hA hl.1 (Y_jump l G h0 a (upd (upd (upd (upd (upd (upd (upd (upd F 2 (nI sz)) 5 (nI cs)) 6 (nI rg)) 7 (nI hd)) 8 (nI dp)) 12 (nI vr)) 13 as9) 16 ls9) (updR (updR (updR R 2 (.ref pq)) 3 (.ref mq)) 4 (.ref lq)) Z B J K.1 (fun q99 x99 => x99 = rep G a K q99) w 28 xcv 0 cs hd (by omega) hO) (gV pw_197 pw_198 pw_199 pw_70 pw_132) hV_X1_jump qr160 1 hqr161 rfl rfl rfl (Nat.le_of_ble_eq_true rfl) dX0_jumpStatement_111 ⟨(by show 0 + 0 ≤ 1; omega), (by show 0 + 0 ≤ 6; omega)⟩ ⟨(by show 3 + 1 ≤ (5 * n + 33); omega), (by show 8 + (4 + 11) + 83 ≤ (200 * n + 560); omega)⟩ (fun v159 u157 H locs hw158 hP hD hS => ?_)
        obtain ⟨w, _⟩ := u157
        obtain ⟨hw158, hO⟩ := hw158
        obtain rfl : v159 = some (.int (nI cs)) := hw158
        have hO : OKP G h0 a (upd (upd (upd (upd (upd (upd (upd (upd F 2 (nI sz)) 5 (nI (cs + 1))) 6 (nI rg)) 7 (nI hd)) 8 (nI dp)) 12 (nI vr)) 13 as9) 16 ls9) (updR (updR (updR R 2 (.ref pq)) 3 (.ref mq)) 4 (.ref lq)) Z (updA (updA (updA (updA B 16 (upd ((B 16)) cs 28)) 17 (upd ((B 17)) cs xcv)) 18 (upd ((B 18)) cs 0)) 19 (upd ((B 19)) cs (nI hd))) J K w := hO.to rfl
        refine W.widen (k := 0) (n := 0) (Nat.le_of_ble_eq_true rfl) (Nat.le_of_ble_eq_true rfl) ?_
        refine W.eq (g2 := F0 m 114 ls [.int (nI cs), .ref lq]) rfl ?_
        have hsw162 : ∀ x9 : Nat, x9 < cs → (upd ((B 16)) cs 28) x9 = B 16 x9 := fun x9 hx9 => (if_neg (by omega)).trans ((fun _ _ => rfl) x9 hx9)
        have hsw163 : ∀ x9 : Nat, x9 < cs → (upd ((B 17)) cs xcv) x9 = B 17 x9 := fun x9 hx9 => (if_neg (by omega)).trans ((fun _ _ => rfl) x9 hx9)
        have hsw164 : ∀ x9 : Nat, x9 < cs → (upd ((B 18)) cs 0) x9 = B 18 x9 := fun x9 hx9 => (if_neg (by omega)).trans ((fun _ _ => rfl) x9 hx9)
        have hsw165 : ∀ x9 : Nat, x9 < cs → (upd ((B 19)) cs (nI hd)) x9 = B 19 x9 := fun x9 hx9 => (if_neg (by omega)).trans ((fun _ _ => rfl) x9 hx9)
        obtain ⟨Ag166, hst167, hag168⟩ : ∃ A5 : Nat → AS, StW pb.1 pb.2.1 pb.2.2.1 pb.2.2.2 Ag A5 Q9 Q9 pd (fun z => pd z ∨ z = cs) m9 dp lw cs (cs + 1) as9 (-1) hd hd sl sl gr gr (upd ((B 16)) cs 28) (upd ((B 17)) cs xcv) (upd ((B 18)) cs 0) (upd ((B 19)) cs (nI hd)) ([] : List Nat) ∧ ∀ x9 : Nat, x9 ≤ cs → A5 x9 = Ag x9 := ⟨(upS Ag (cs + 1) (rcA (-1), hd, sl, ([] : List Nat))), StW.jmp (k := 28) hst0 (Nat.zero_le _) (by decide) (fun z9 hz9 => ⟨fun h9 => Or.inl h9, fun h9 => h9.resolve_right (by omega)⟩) (Or.inr rfl) (fun z9 => absurd rfl z9), fun x9 hx9 => upS_ne (by omega)⟩
        have hng169 : Nng (upd ((B 18)) cs 0) := Nng.set hng (k := 0) (by omega)
        refine p_put (v := .int (nI cs)) (ty := .int) (C := RX4) (Tc := TX4) (N := 6) (ci := 11) (K' := (kI K 28 lq (nI cs))) hx hb hq pin_wsX40 tyX4 tyX4_ok nmX4 hown hE hP hD hS hO (by rw [hlT]; decide) (rep_9 hlT) rfl 3 (by decide) (hq _ pw_284) (fun _ h9 => h9) rfl (by decide +kernel) rfl rfl (Nat.le_of_ble_eq_true rfl) rfl (by rw [rep_9 (show (kI K 28 lq (nI cs)).1 lq = 9 from hlT), pi_28] <;> rfl) (fun p9 hp9 => rep_kI hp9) dX0_jumpStatement_114 (fun H locs w hP hD hS hO => ?_)
        obtain ⟨K170, hK171⟩ : ∃ z : PK, z = (kI K 28 lq (nI cs)) := ⟨_, rfl⟩
        rw [← hK171] at hO
        have hf172 : K170.1 pq = 7 := (by rw [hK171]; exact hp1)
        have hf173 : K170.2.2.1 18 pq = some (a 1) := (by rw [hK171]; exact hp2)
        have hf174 : K170.2.2.1 14 pq = some dr := (by rw [hK171]; exact hp3)
        have hf175 : K170.1 dr = 8 := (by rw [hK171]; exact hp4)
        have hf176 : K170.2.2.1 15 pq = some ml := (by rw [hK171]; exact hp5)
        have hf177 : K170.1 ml = 5 := (by rw [hK171]; exact hp6)
        have hf178 : K170.2.1 24 pq = (nI nd) := (by rw [hK171]; exact (kI_of (by decide)).trans hp8)
        have hf179 : K170.1 q = 1 := (by rw [hK171]; exact hqT)
        have hf180 : K170.1 mq = 3 := (by rw [hK171]; exact hmq)
        have hf181 : K170.2.1 10 mq = (nI rt) := (by rw [hK171]; exact (kI_of (by decide)).trans hrt)
        have hf182 : K170.1 lq = 9 := (by rw [hK171]; exact hlT)
        have hf183 : K170.2.1 27 lq = xbv := (by rw [hK171]; exact (kI_of (by decide)).trans hxbv)
        have hf184 : K170.2.1 29 lq = bsv := (by rw [hK171]; exact (kI_of (by decide)).trans hbsv)
        have hf185 : K170.2.1 30 lq = csv := (by rw [hK171]; exact (kI_of (by decide)).trans hcsv)
        have hf186 : K170.2.1 28 lq = (nI cs) := by rw [hK171]; exact kI_eq
        have hbe190 : BdE K K170 := by rw [hK171]; exact BdE.kI (Or.inr (by decide))
        have hbe187 : BdE K K170 := BdE.trans BdE.rfl hbe190
        have hbl188 : BeL K K170 (some lq) := BeL.trans BeL.rfl (by rw [hK171]; exact BeL.own) BdE.rfl
        have hbf189 : BeF K K170 := BeF.trans BeF.rfl (by rw [hK171]; exact BeF.oth (by decide)) BdE.rfl
        refine lv_aload_n hx hb dX0_jumpStatement_117 rfl (lv_at hl 1 rfl) ?_
        refine c_get (v := .ref lq) (C := RX0) (Tc := TX0) (N := 13) (ci := 0) hx hb hq pin_wsX00 hown hE hP hO 24 (sg_24 G h0 a _ _ _ _ _) rfl 11 (by decide) (hq _ pw_73) (fun _ h9 => h9) rfl dX0_jumpStatement_118 ?_
        refine lv_dup hx hb dX0_jumpStatement_121 rfl ?_
        refine p_get (v := .int csv) (C := RX4) (Tc := TX4) (N := 6) (ci := 11) hx hb hq pin_wsX40 hown hE hP hO (by rw [hf182]; decide) (rep_9 hf182) rfl 5 (by decide) (hq _ pw_285) (fun _ h9 => h9) (congrArg (fun z => some (Value.int z)) hf185) dX0_jumpStatement_122 ?_
        refine lv_aload_n hx hb dX0_jumpStatement_125 rfl (lv_at hl 1 rfl) ?_
        refine c_get (v := .int as9) (C := RX0) (Tc := TX0) (N := 13) (ci := 0) hx hb hq pin_wsX00 hown hE hP hO 24 (sg_24 G h0 a _ _ _ _ _) rfl 8 (by decide) (hq _ pw_55) (fun _ h9 => h9) rfl dX0_jumpStatement_126 ?_
        refine lv_iand hx hb dX0_jumpStatement_129 ?_
        refine lv_topi (fun x191 e192 => ?_)
        obtain rfl : x191 = (csv &&& as9) := e192
        refine p_put (v := .int (csv &&& as9)) (ty := .int) (C := RX4) (Tc := TX4) (N := 6) (ci := 11) (K' := (kI K170 30 lq (csv &&& as9))) hx hb hq pin_wsX40 tyX4 tyX4_ok nmX4 hown hE hP hD hS hO (by rw [hf182]; decide) (rep_9 hf182) rfl 5 (by decide) (hq _ pw_285) (fun _ h9 => h9) rfl (by decide +kernel) rfl rfl (Nat.le_of_ble_eq_true rfl) rfl (by rw [rep_9 (show (kI K170 30 lq (csv &&& as9)).1 lq = 9 from hf182), pi_30] <;> rfl) (fun p9 hp9 => rep_kI hp9) dX0_jumpStatement_130 (fun H locs w hP hD hS hO => ?_)
        obtain ⟨K193, hK194⟩ : ∃ z : PK, z = (kI K170 30 lq (csv &&& as9)) := ⟨_, rfl⟩
        rw [← hK194] at hO
        have hf195 : K193.1 pq = 7 := (by rw [hK194]; exact hf172)
        have hf196 : K193.2.2.1 18 pq = some (a 1) := (by rw [hK194]; exact hf173)
        have hf197 : K193.2.2.1 14 pq = some dr := (by rw [hK194]; exact hf174)
        have hf198 : K193.1 dr = 8 := (by rw [hK194]; exact hf175)
        have hf199 : K193.2.2.1 15 pq = some ml := (by rw [hK194]; exact hf176)
        have hf200 : K193.1 ml = 5 := (by rw [hK194]; exact hf177)
        have hf201 : K193.2.1 24 pq = (nI nd) := (by rw [hK194]; exact (kI_of (by decide)).trans hf178)
        have hf202 : K193.1 q = 1 := (by rw [hK194]; exact hf179)
        have hf203 : K193.1 mq = 3 := (by rw [hK194]; exact hf180)
        have hf204 : K193.2.1 10 mq = (nI rt) := (by rw [hK194]; exact (kI_of (by decide)).trans hf181)
        have hf205 : K193.1 lq = 9 := (by rw [hK194]; exact hf182)
        have hf206 : K193.2.1 27 lq = xbv := (by rw [hK194]; exact (kI_of (by decide)).trans hf183)
        have hf207 : K193.2.1 29 lq = bsv := (by rw [hK194]; exact (kI_of (by decide)).trans hf184)
        have hf208 : K193.2.1 28 lq = (nI cs) := (by rw [hK194]; exact (kI_of (by decide)).trans hf186)
        have hf209 : K193.2.1 30 lq = (csv &&& as9) := by rw [hK194]; exact kI_eq
        have hbe213 : BdE K170 K193 := by rw [hK194]; exact BdE.kI (Or.inr (by decide))
        have hbe210 : BdE K K193 := BdE.trans hbe187 hbe213
        have hbl211 : BeL K K193 (some lq) := BeL.trans hbl188 (by rw [hK194]; exact BeL.own) hbe187
        have hbf212 : BeF K K193 := BeF.trans hbf189 (by rw [hK194]; exact BeF.oth (by decide)) hbe187
        refine lv_aload_n hx hb dX0_jumpStatement_133 rfl (lv_at hl 1 rfl) ?_
        refine lv_iconst (v := (-1)) hx hb dX0_jumpStatement_134 (by decide) ?_
        refine c_put (v := .int (-1)) (ty := .int) (C := RX0) (Tc := TX0) (N := 13) (ci := 0) hx hb hq pin_wsX00 tyX0 tyX0_ok nmX0 hown hE hP hD hS hO 24 (sg_24 G h0 a _ _ _ _ _) rfl 8 (by decide) (hq _ pw_55) (fun _ h9 => h9) rfl (by decide +kernel) rfl rfl (Nat.le_of_ble_eq_true rfl) (sf_13 G h0 a _ _ _ _ _ (-1)) dX0_jumpStatement_135 (fun H locs w hP hD hS hO => ?_)
        refine W_size (fun hz1 hz2 => ?_)
        refine vx_ret ?_
        have hcb : ∀ y9 : Nat, y9 ∈ xb → y9 < cs := fun y9 hy9 => (hl3 y9 hy9).2.1
        have hcc : ∀ y9 : Nat, y9 ∈ xc → y9 < cs := fun y9 hy9 => (hl4 y9 hy9).2.1
        have hagc : Ag166 cs = (rcA as9, hd, sl, ([] : List Nat)) := (hag168 cs (Nat.le_refl _)).trans hem.1.2
        have hlpz : LpS K193 (upd ((B 16)) cs 28) (upd ((B 17)) cs xcv) Ag166 (fun z => pd z ∨ z = cs) (some lq) lw (cs + 1) hd sl hdL slL xb (cs :: xc) := ⟨fun z9 h9 => h9.elim (fun h8 => Nat.lt_succ_of_lt (hlp.1 z9 h8)) (fun h8 => by omega), fun e9 => (by cases e9), fun lq9 e9 => by cases e9; exact ⟨⟨(by rw [hf206]; exact (ChnJ.same hl1 (fun y9 hy9 => if_neg (by have z9 := hcb y9 hy9; omega)))), (by rw [hf208]; exact (ChnJ.emit hl2 (by omega) hcc)), (by rw [hf207]; exact (LpJ.same hl3 (fun z9 hz9 => ⟨if_neg (by omega), hag168 z9 (by omega)⟩) (by omega))), (by rw [hf209]; exact (LpJ.cons (cs := cs) (bs := csv) hl4 ⟨by omega, by omega, Or.inr (if_pos rfl), fun z9 => by rw [hagc] at z9 ⊢; exact ⟨and_n2 (rcA_of z9), hl9, fun s9 hs9 => hl10 s9 hs9, rfl⟩⟩ (fun z9 hz9 => ⟨if_neg (by omega), hag168 z9 (by omega)⟩) (by omega) (fun z9 => and_n1 z9))), (by rw [hf207]; exact hl5), (by rw [hf209]; exact (AsO.and hl6 hao)), (fun z9 hz9 => Or.inl (hl7 z9 hz9)), (fun z9 hz9 => by rcases List.mem_cons.mp hz9 with e9 | e9; exact Or.inr e9; exact Or.inl (hl8 z9 e9)), hl9, hl10⟩, (fun z9 hz9 q9 => by rcases List.mem_cons.mp q9 with e9 | e9; (rw [e9] at hz9; exact absurd (hcb cs hz9) (by omega)); exact hldis z9 hz9 e9)⟩⟩
        have hpdz : PdS pd (fun z => pd z ∨ z = cs) xb xb xc (cs :: xc) ([] : List Nat) cs (cs + 1) := ⟨fun _ h9 => Or.inl h9, fun z9 h9 => h9.elim Or.inl (fun h8 => Or.inr (Or.inr (Or.inl (by rw [h8]; exact List.mem_cons_self ..)))), (fun _ h9 => h9), (fun z9 hz9 => List.mem_cons_of_mem _ hz9), (fun _ h9 => Or.inl h9), (fun z9 hz9 => by rcases List.mem_cons.mp hz9 with e9 | e9; exact Or.inr (by omega); exact Or.inl e9), fun z9 hz9 => absurd hz9 (List.not_mem_nil)⟩
        have hlrz : LpR K193 (some lq) rL := fun l9 e9 => by cases e9; have z9 := hlr lq rfl; rw [hbsv, hcsv] at z9; rw [hf207, hf209]; exact ⟨z9.1, (fun y9 => Classical.byContradiction fun v9 => y9 (and_m1.mpr ⟨Classical.byContradiction fun u9 => v9 (z9.2 u9), Classical.byContradiction fun u9 => v9 (hrL u9)⟩))⟩
        have hz214 : SmW B (updA (updA (updA (updA B 16 (upd ((B 16)) cs 28)) 17 (upd ((B 17)) cs xcv)) 18 (upd ((B 18)) cs 0)) 19 (upd ((B 19)) cs (nI hd))) cs := (fun x9 hx9 => ⟨hsw162 x9 hx9, hsw163 x9 hx9, hsw164 x9 hx9, hsw165 x9 hx9⟩)
        have hz215 : BdE K K193 := hbe210
        have hz216 : BeF K K193 := hbf212
        have hz217 : BeL K K193 (some lq) := hbl211
        have hz218 : Bth B (updA (updA (updA (updA B 16 (upd ((B 16)) cs 28)) 17 (upd ((B 17)) cs xcv)) 18 (upd ((B 18)) cs 0)) 19 (upd ((B 19)) cs (nI hd))) := (show Thx (upd (upd (upd (upd (upd (upd (upd (upd F 2 (nI sz)) 5 (nI cs)) 6 (nI rg)) 7 (nI hd)) 8 (nI dp)) 12 (nI vr)) 13 as9) 16 ls9) (upd (upd (upd (upd (upd (upd (upd (upd (upd (upd F 2 (nI sz)) 5 (nI cs)) 6 (nI rg)) 7 (nI hd)) 8 (nI dp)) 12 (nI vr)) 13 as9) 16 ls9) 5 (nI (cs + 1))) 13 (-1)) B (updA (updA (updA (updA B 16 (upd ((B 16)) cs 28)) 17 (upd ((B 17)) cs xcv)) 18 (upd ((B 18)) cs 0)) 19 (upd ((B 19)) cs (nI hd))) from (Thx.b (Thx.b8 (Thx.b (Thx.b (Thx.f (Thx.f Thx.rfl (by omega)) (by omega)) (by omega) (by decide)) (by omega) (by decide)) hng169) (by omega) (by decide))).2
        have hz219 : BtR B (updA (updA (updA (updA B 16 (upd ((B 16)) cs 28)) 17 (upd ((B 17)) cs xcv)) 18 (upd ((B 18)) cs 0)) 19 (upd ((B 19)) cs (nI hd))) := (BtR.up (BtR.up (BtR.up (BtR.up BtR.rfl (by omega)) (by omega)) (by omega)) (by omega))
        have hz220 : cs ≤ (cs + 1) ∧ (cs + 1) + 1 ≤ cs + 2 * tlE g q := (by omega)
        have hz221 : dp ≤ dp ∧ dp ≤ 71 := (by omega)
        have hz222 : AsO ((-1) : Int32) := AsO.m1
        have hz223 : VrS B (updA (updA (updA (updA B 16 (upd ((B 16)) cs 28)) 17 (upd ((B 17)) cs xcv)) 18 (upd ((B 18)) cs 0)) 19 (upd ((B 19)) cs (nI hd))) vr := VrS.rfl
        have hz224 : gr ≤ gr ∧ rg ≤ 625 ∧ rg ≤ gr ∧ (rg = 625 ∨ rg = gr) := (by omega)
        have hz225 : EnV ((updA (updA (updA (updA B 16 (upd ((B 16)) cs 28)) 17 (upd ((B 17)) cs xcv)) 18 (upd ((B 18)) cs 0)) 19 (upd ((B 19)) cs (nI hd))) 26) ((updA (updA (updA (updA B 16 (upd ((B 16)) cs 28)) 17 (upd ((B 17)) cs xcv)) 18 (upd ((B 18)) cs 0)) 19 (upd ((B 19)) cs (nI hd))) 27) nd vr hd c0 sl := hen
        have hz226 : StW pb.1 pb.2.1 pb.2.2.1 pb.2.2.2 Ag Ag166 Q9 Q9 pd (fun z => pd z ∨ z = cs) m9 dp lw cs (cs + 1) as9 ((-1) : Int32) hd hd sl sl gr gr ((updA (updA (updA (updA B 16 (upd ((B 16)) cs 28)) 17 (upd ((B 17)) cs xcv)) 18 (upd ((B 18)) cs 0)) 19 (upd ((B 19)) cs (nI hd))) 16) ((updA (updA (updA (updA B 16 (upd ((B 16)) cs 28)) 17 (upd ((B 17)) cs xcv)) 18 (upd ((B 18)) cs 0)) 19 (upd ((B 19)) cs (nI hd))) 17) ((updA (updA (updA (updA B 16 (upd ((B 16)) cs 28)) 17 (upd ((B 17)) cs xcv)) 18 (upd ((B 18)) cs 0)) 19 (upd ((B 19)) cs (nI hd))) 18) ((updA (updA (updA (updA B 16 (upd ((B 16)) cs 28)) 17 (upd ((B 17)) cs xcv)) 18 (upd ((B 18)) cs 0)) 19 (upd ((B 19)) cs (nI hd))) 19) [] := hst167
        have hz227 : LpS K193 ((updA (updA (updA (updA B 16 (upd ((B 16)) cs 28)) 17 (upd ((B 17)) cs xcv)) 18 (upd ((B 18)) cs 0)) 19 (upd ((B 19)) cs (nI hd))) 16) ((updA (updA (updA (updA B 16 (upd ((B 16)) cs 28)) 17 (upd ((B 17)) cs xcv)) 18 (upd ((B 18)) cs 0)) 19 (upd ((B 19)) cs (nI hd))) 17) Ag166 (fun z => pd z ∨ z = cs) (some lq) lw (cs + 1) hd sl hdL slL xb (cs :: xc) := hlpz
        have hz228 : PdS pd (fun z => pd z ∨ z = cs) xb xb xc (cs :: xc) [] cs (cs + 1) := hpdz
        have hz229 : RgQx (updA (updA (updA (updA B 16 (upd ((B 16)) cs 28)) 17 (upd ((B 17)) cs xcv)) 18 (upd ((B 18)) cs 0)) 19 (upd ((B 19)) cs (nI hd))) Q9 gr nd := hrq
        have hz230 : LpR K193 (some lq) rL := hlrz
        have hO : OKP G h0 a (upd (upd (upd (upd (upd (upd (upd (upd (upd (upd F 2 (nI sz)) 5 (nI (cs + 1))) 6 (nI rg)) 7 (nI hd)) 8 (nI dp)) 12 (nI vr)) 13 ((-1) : Int32)) 14 (F 14)) 15 (F 15)) 16 ls9) (updR (updR (updR R 2 (.ref pq)) 3 (.ref mq)) 4 (va_rf (some lq))) Z (updA (updA (updA (updA B 16 (upd ((B 16)) cs 28)) 17 (upd ((B 17)) cs xcv)) 18 (upd ((B 18)) cs 0)) 19 (upd ((B 19)) cs (nI hd))) J K193 w := hO.to rfl
        refine W.widen (k := 1) (n := 6) (by omega) (by omega) ?_
        have hzz1 : H.size ≤ s.heap.size + (0) := (by have z : 0 ≤ 0 := (by omega); omega)
        have hzz2 : hSl H ≤ hSl s.heap + (0) := (by have z : 0 ≤ 0 := (by omega); omega)
        exact W.vret hx hb hr (fun t99 ht99 hW99 => ⟨⟨_, (w, (K193, (updA (updA (updA (updA B 16 (upd ((B 16)) cs 28)) 17 (upd ((B 17)) cs xcv)) 18 (upd ((B 18)) cs 0)) 19 (upd ((B 19)) cs (nI hd))), (cs + 1), ((-1) : Int32), (F 14), (F 15), dp, Ag166, rg, gr, ls9, Q9, (fun z => pd z ∨ z = cs), xb, (cs :: xc))), rfl, ⟨rfl, hz214, hz215, hz216, hz217, hz218, hz219, hz220, hz221, hz222, hz223, hz224, hz225, hz226, hz227, hz228, hz229, hz230, hO⟩, by rw [ht99]; exact hP, hD, by rw [ht99]; exact hzz1, by rw [ht99]; exact hzz2⟩, hS.F ht99⟩) hS.2.2 dX0_jumpStatement_138
      · refine lv_aload_n hx hb dX0_jumpStatement_52 rfl (lv_at hl 1 rfl) ?_
        refine c_get (v := .ref lq) (C := RX0) (Tc := TX0) (N := 13) (ci := 0) hx hb hq pin_wsX00 hown hE hP hO 24 (sg_24 G h0 a _ _ _ _ _) rfl 11 (by decide) (hq _ pw_73) (fun _ h9 => h9) rfl dX0_jumpStatement_53 ?_
        refine lv_aload_n hx hb dX0_jumpStatement_56 rfl (lv_at hl 1 rfl) ?_
        refine c_get (v := .ref (a 2)) (C := RX0) (Tc := TX0) (N := 13) (ci := 0) hx hb hq pin_wsX00 hown hE hP hO 24 (sg_24 G h0 a _ _ _ _ _) rfl 1 (by decide) (hq _ pw_5) (fun _ h9 => h9) rfl dX0_jumpStatement_57 ?_
        refine lv_iload_n hx hb dX0_jumpStatement_60 rfl (lv_at hl 0 rfl) ?_
        refine lv_aload_n hx hb dX0_jumpStatement_61 rfl (lv_at hl 1 rfl) ?_
        refine c_get (v := .ref lq) (C := RX0) (Tc := TX0) (N := 13) (ci := 0) hx hb hq pin_wsX00 hown hE hP hO 24 (sg_24 G h0 a _ _ _ _ _) rfl 11 (by decide) (hq _ pw_73) (fun _ h9 => h9) rfl dX0_jumpStatement_62 ?_
        refine p_get (v := .int xbv) (C := RX4) (Tc := TX4) (N := 6) (ci := 11) hx hb hq pin_wsX40 hown hE hP hO (by rw [hlT]; decide) (rep_9 hlT) rfl 2 (by decide) (hq _ pw_282) (fun _ h9 => h9) (congrArg (fun z => some (Value.int z)) hxbv) dX0_jumpStatement_65 ?_
        refine lv_iconst (v := 0) hx hb dX0_jumpStatement_68 (by decide) ?_
        have hO : OKW G h0 a (upd (upd (upd (upd (upd (upd (upd (upd (upd (upd F 2 (nI sz)) 5 (nI cs)) 6 (nI rg)) 7 (nI hd)) 8 (nI dp)) 12 (nI vr)) 13 as9) 16 ls9) 5 (nI cs)) 7 (nI hd)) (updR (updR (updR R 2 (.ref pq)) 3 (.ref mq)) 4 (.ref lq)) Z B J K.1 (fun q99 x99 => x99 = rep G a K q99) w := hO.to rfl
        obtain ⟨_, qr234, hqr235⟩ := hO.2.1 13 _ (sg_13 G h0 a _ _ _ _ _)
        refine pc_V0 (G := G) (As := [.int 28, .int xbv, .int 0]) (rest := [.ref lq]) hx hb hml hown hq hE hX pX0_al hP hD hS hA hl.1 (Y_jump l G h0 a (upd (upd (upd (upd (upd (upd (upd (upd F 2 (nI sz)) 5 (nI cs)) 6 (nI rg)) 7 (nI hd)) 8 (nI dp)) 12 (nI vr)) 13 as9) 16 ls9) (updR (updR (updR R 2 (.ref pq)) 3 (.ref mq)) 4 (.ref lq)) Z B J K.1 (fun q99 x99 => x99 = rep G a K q99) w 28 xbv 0 cs hd (by omega) hO) (gV pw_197 pw_198 pw_199 pw_70 pw_132) hV_X1_jump qr234 1 hqr235 rfl rfl rfl (Nat.le_of_ble_eq_true rfl) dX0_jumpStatement_69 ⟨(by show 0 + 0 ≤ 1; omega), (by show 0 + 0 ≤ 6; omega)⟩ ⟨(by show 3 + 1 ≤ (5 * n + 33); omega), (by show 8 + (4 + 11) + 83 ≤ (200 * n + 560); omega)⟩ (fun v233 u231 H locs hw232 hP hD hS => ?_)
        obtain ⟨w, _⟩ := u231
        obtain ⟨hw232, hO⟩ := hw232
        obtain rfl : v233 = some (.int (nI cs)) := hw232
        have hO : OKP G h0 a (upd (upd (upd (upd (upd (upd (upd (upd F 2 (nI sz)) 5 (nI (cs + 1))) 6 (nI rg)) 7 (nI hd)) 8 (nI dp)) 12 (nI vr)) 13 as9) 16 ls9) (updR (updR (updR R 2 (.ref pq)) 3 (.ref mq)) 4 (.ref lq)) Z (updA (updA (updA (updA B 16 (upd ((B 16)) cs 28)) 17 (upd ((B 17)) cs xbv)) 18 (upd ((B 18)) cs 0)) 19 (upd ((B 19)) cs (nI hd))) J K w := hO.to rfl
        refine W.widen (k := 0) (n := 0) (Nat.le_of_ble_eq_true rfl) (Nat.le_of_ble_eq_true rfl) ?_
        refine W.eq (g2 := F0 m 72 ls [.int (nI cs), .ref lq]) rfl ?_
        have hsw236 : ∀ x9 : Nat, x9 < cs → (upd ((B 16)) cs 28) x9 = B 16 x9 := fun x9 hx9 => (if_neg (by omega)).trans ((fun _ _ => rfl) x9 hx9)
        have hsw237 : ∀ x9 : Nat, x9 < cs → (upd ((B 17)) cs xbv) x9 = B 17 x9 := fun x9 hx9 => (if_neg (by omega)).trans ((fun _ _ => rfl) x9 hx9)
        have hsw238 : ∀ x9 : Nat, x9 < cs → (upd ((B 18)) cs 0) x9 = B 18 x9 := fun x9 hx9 => (if_neg (by omega)).trans ((fun _ _ => rfl) x9 hx9)
        have hsw239 : ∀ x9 : Nat, x9 < cs → (upd ((B 19)) cs (nI hd)) x9 = B 19 x9 := fun x9 hx9 => (if_neg (by omega)).trans ((fun _ _ => rfl) x9 hx9)
        obtain ⟨Ag240, hst241, hag242⟩ : ∃ A5 : Nat → AS, StW pb.1 pb.2.1 pb.2.2.1 pb.2.2.2 Ag A5 Q9 Q9 pd (fun z => pd z ∨ z = cs) m9 dp lw cs (cs + 1) as9 (-1) hd hd sl sl gr gr (upd ((B 16)) cs 28) (upd ((B 17)) cs xbv) (upd ((B 18)) cs 0) (upd ((B 19)) cs (nI hd)) ([] : List Nat) ∧ ∀ x9 : Nat, x9 ≤ cs → A5 x9 = Ag x9 := ⟨(upS Ag (cs + 1) (rcA (-1), hd, sl, ([] : List Nat))), StW.jmp (k := 28) hst0 (Nat.zero_le _) (by decide) (fun z9 hz9 => ⟨fun h9 => Or.inl h9, fun h9 => h9.resolve_right (by omega)⟩) (Or.inr rfl) (fun z9 => absurd rfl z9), fun x9 hx9 => upS_ne (by omega)⟩
        have hng243 : Nng (upd ((B 18)) cs 0) := Nng.set hng (k := 0) (by omega)
        refine p_put (v := .int (nI cs)) (ty := .int) (C := RX4) (Tc := TX4) (N := 6) (ci := 11) (K' := (kI K 27 lq (nI cs))) hx hb hq pin_wsX40 tyX4 tyX4_ok nmX4 hown hE hP hD hS hO (by rw [hlT]; decide) (rep_9 hlT) rfl 2 (by decide) (hq _ pw_282) (fun _ h9 => h9) rfl (by decide +kernel) rfl rfl (Nat.le_of_ble_eq_true rfl) rfl (by rw [rep_9 (show (kI K 27 lq (nI cs)).1 lq = 9 from hlT), pi_27] <;> rfl) (fun p9 hp9 => rep_kI hp9) dX0_jumpStatement_72 (fun H locs w hP hD hS hO => ?_)
        obtain ⟨K244, hK245⟩ : ∃ z : PK, z = (kI K 27 lq (nI cs)) := ⟨_, rfl⟩
        rw [← hK245] at hO
        have hf246 : K244.1 pq = 7 := (by rw [hK245]; exact hp1)
        have hf247 : K244.2.2.1 18 pq = some (a 1) := (by rw [hK245]; exact hp2)
        have hf248 : K244.2.2.1 14 pq = some dr := (by rw [hK245]; exact hp3)
        have hf249 : K244.1 dr = 8 := (by rw [hK245]; exact hp4)
        have hf250 : K244.2.2.1 15 pq = some ml := (by rw [hK245]; exact hp5)
        have hf251 : K244.1 ml = 5 := (by rw [hK245]; exact hp6)
        have hf252 : K244.2.1 24 pq = (nI nd) := (by rw [hK245]; exact (kI_of (by decide)).trans hp8)
        have hf253 : K244.1 q = 1 := (by rw [hK245]; exact hqT)
        have hf254 : K244.1 mq = 3 := (by rw [hK245]; exact hmq)
        have hf255 : K244.2.1 10 mq = (nI rt) := (by rw [hK245]; exact (kI_of (by decide)).trans hrt)
        have hf256 : K244.1 lq = 9 := (by rw [hK245]; exact hlT)
        have hf257 : K244.2.1 28 lq = xcv := (by rw [hK245]; exact (kI_of (by decide)).trans hxcv)
        have hf258 : K244.2.1 29 lq = bsv := (by rw [hK245]; exact (kI_of (by decide)).trans hbsv)
        have hf259 : K244.2.1 30 lq = csv := (by rw [hK245]; exact (kI_of (by decide)).trans hcsv)
        have hf260 : K244.2.1 27 lq = (nI cs) := by rw [hK245]; exact kI_eq
        have hbe264 : BdE K K244 := by rw [hK245]; exact BdE.kI (Or.inr (by decide))
        have hbe261 : BdE K K244 := BdE.trans BdE.rfl hbe264
        have hbl262 : BeL K K244 (some lq) := BeL.trans BeL.rfl (by rw [hK245]; exact BeL.own) BdE.rfl
        have hbf263 : BeF K K244 := BeF.trans BeF.rfl (by rw [hK245]; exact BeF.oth (by decide)) BdE.rfl
        refine lv_aload_n hx hb dX0_jumpStatement_75 rfl (lv_at hl 1 rfl) ?_
        refine c_get (v := .ref lq) (C := RX0) (Tc := TX0) (N := 13) (ci := 0) hx hb hq pin_wsX00 hown hE hP hO 24 (sg_24 G h0 a _ _ _ _ _) rfl 11 (by decide) (hq _ pw_73) (fun _ h9 => h9) rfl dX0_jumpStatement_76 ?_
        refine lv_dup hx hb dX0_jumpStatement_79 rfl ?_
        refine p_get (v := .int bsv) (C := RX4) (Tc := TX4) (N := 6) (ci := 11) hx hb hq pin_wsX40 hown hE hP hO (by rw [hf256]; decide) (rep_9 hf256) rfl 4 (by decide) (hq _ pw_283) (fun _ h9 => h9) (congrArg (fun z => some (Value.int z)) hf258) dX0_jumpStatement_80 ?_
        refine lv_aload_n hx hb dX0_jumpStatement_83 rfl (lv_at hl 1 rfl) ?_
        refine c_get (v := .int as9) (C := RX0) (Tc := TX0) (N := 13) (ci := 0) hx hb hq pin_wsX00 hown hE hP hO 24 (sg_24 G h0 a _ _ _ _ _) rfl 8 (by decide) (hq _ pw_55) (fun _ h9 => h9) rfl dX0_jumpStatement_84 ?_
        refine lv_iand hx hb dX0_jumpStatement_87 ?_
        refine lv_topi (fun x265 e266 => ?_)
        obtain rfl : x265 = (bsv &&& as9) := e266
        refine p_put (v := .int (bsv &&& as9)) (ty := .int) (C := RX4) (Tc := TX4) (N := 6) (ci := 11) (K' := (kI K244 29 lq (bsv &&& as9))) hx hb hq pin_wsX40 tyX4 tyX4_ok nmX4 hown hE hP hD hS hO (by rw [hf256]; decide) (rep_9 hf256) rfl 4 (by decide) (hq _ pw_283) (fun _ h9 => h9) rfl (by decide +kernel) rfl rfl (Nat.le_of_ble_eq_true rfl) rfl (by rw [rep_9 (show (kI K244 29 lq (bsv &&& as9)).1 lq = 9 from hf256), pi_29] <;> rfl) (fun p9 hp9 => rep_kI hp9) dX0_jumpStatement_88 (fun H locs w hP hD hS hO => ?_)
        obtain ⟨K267, hK268⟩ : ∃ z : PK, z = (kI K244 29 lq (bsv &&& as9)) := ⟨_, rfl⟩
        rw [← hK268] at hO
        have hf269 : K267.1 pq = 7 := (by rw [hK268]; exact hf246)
        have hf270 : K267.2.2.1 18 pq = some (a 1) := (by rw [hK268]; exact hf247)
        have hf271 : K267.2.2.1 14 pq = some dr := (by rw [hK268]; exact hf248)
        have hf272 : K267.1 dr = 8 := (by rw [hK268]; exact hf249)
        have hf273 : K267.2.2.1 15 pq = some ml := (by rw [hK268]; exact hf250)
        have hf274 : K267.1 ml = 5 := (by rw [hK268]; exact hf251)
        have hf275 : K267.2.1 24 pq = (nI nd) := (by rw [hK268]; exact (kI_of (by decide)).trans hf252)
        have hf276 : K267.1 q = 1 := (by rw [hK268]; exact hf253)
        have hf277 : K267.1 mq = 3 := (by rw [hK268]; exact hf254)
        have hf278 : K267.2.1 10 mq = (nI rt) := (by rw [hK268]; exact (kI_of (by decide)).trans hf255)
        have hf279 : K267.1 lq = 9 := (by rw [hK268]; exact hf256)
        have hf280 : K267.2.1 28 lq = xcv := (by rw [hK268]; exact (kI_of (by decide)).trans hf257)
        have hf281 : K267.2.1 30 lq = csv := (by rw [hK268]; exact (kI_of (by decide)).trans hf259)
        have hf282 : K267.2.1 27 lq = (nI cs) := (by rw [hK268]; exact (kI_of (by decide)).trans hf260)
        have hf283 : K267.2.1 29 lq = (bsv &&& as9) := by rw [hK268]; exact kI_eq
        have hbe287 : BdE K244 K267 := by rw [hK268]; exact BdE.kI (Or.inr (by decide))
        have hbe284 : BdE K K267 := BdE.trans hbe261 hbe287
        have hbl285 : BeL K K267 (some lq) := BeL.trans hbl262 (by rw [hK268]; exact BeL.own) hbe261
        have hbf286 : BeF K K267 := BeF.trans hbf263 (by rw [hK268]; exact BeF.oth (by decide)) hbe261
        refine lv_goto (tgt := 133) hx hb dX0_jumpStatement_91 (by decide) ?_
        refine lv_aload_n hx hb dX0_jumpStatement_133 rfl (lv_at hl 1 rfl) ?_
        refine lv_iconst (v := (-1)) hx hb dX0_jumpStatement_134 (by decide) ?_
        refine c_put (v := .int (-1)) (ty := .int) (C := RX0) (Tc := TX0) (N := 13) (ci := 0) hx hb hq pin_wsX00 tyX0 tyX0_ok nmX0 hown hE hP hD hS hO 24 (sg_24 G h0 a _ _ _ _ _) rfl 8 (by decide) (hq _ pw_55) (fun _ h9 => h9) rfl (by decide +kernel) rfl rfl (Nat.le_of_ble_eq_true rfl) (sf_13 G h0 a _ _ _ _ _ (-1)) dX0_jumpStatement_135 (fun H locs w hP hD hS hO => ?_)
        refine W_size (fun hz1 hz2 => ?_)
        refine vx_ret ?_
        have hcb : ∀ y9 : Nat, y9 ∈ xb → y9 < cs := fun y9 hy9 => (hl3 y9 hy9).2.1
        have hcc : ∀ y9 : Nat, y9 ∈ xc → y9 < cs := fun y9 hy9 => (hl4 y9 hy9).2.1
        have hagc : Ag240 cs = (rcA as9, hd, sl, ([] : List Nat)) := (hag242 cs (Nat.le_refl _)).trans hem.1.2
        have hlpz : LpS K267 (upd ((B 16)) cs 28) (upd ((B 17)) cs xbv) Ag240 (fun z => pd z ∨ z = cs) (some lq) lw (cs + 1) hd sl hdL slL (cs :: xb) xc := ⟨fun z9 h9 => h9.elim (fun h8 => Nat.lt_succ_of_lt (hlp.1 z9 h8)) (fun h8 => by omega), fun e9 => (by cases e9), fun lq9 e9 => by cases e9; exact ⟨⟨(by rw [hf282]; exact (ChnJ.emit hl1 (by omega) hcb)), (by rw [hf280]; exact (ChnJ.same hl2 (fun y9 hy9 => if_neg (by have z9 := hcc y9 hy9; omega)))), (by rw [hf283]; exact (LpJ.cons (cs := cs) (bs := bsv) hl3 ⟨by omega, by omega, Or.inr (if_pos rfl), fun z9 => by rw [hagc] at z9 ⊢; exact ⟨and_n2 (rcA_of z9), hl9, fun s9 hs9 => hl10 s9 hs9, rfl⟩⟩ (fun z9 hz9 => ⟨if_neg (by omega), hag242 z9 (by omega)⟩) (by omega) (fun z9 => and_n1 z9))), (by rw [hf281]; exact (LpJ.same hl4 (fun z9 hz9 => ⟨if_neg (by omega), hag242 z9 (by omega)⟩) (by omega))), (by rw [hf283]; exact (AsO.and hl5 hao)), (by rw [hf281]; exact hl6), (fun z9 hz9 => by rcases List.mem_cons.mp hz9 with e9 | e9; exact Or.inr e9; exact Or.inl (hl7 z9 e9)), (fun z9 hz9 => Or.inl (hl8 z9 hz9)), hl9, hl10⟩, (fun z9 hz9 => by rcases List.mem_cons.mp hz9 with e9 | e9; (rw [e9]; exact fun q9 => absurd (hcc cs q9) (by omega)); exact hldis z9 e9)⟩⟩
        have hpdz : PdS pd (fun z => pd z ∨ z = cs) xb (cs :: xb) xc xc ([] : List Nat) cs (cs + 1) := ⟨fun _ h9 => Or.inl h9, fun z9 h9 => h9.elim Or.inl (fun h8 => Or.inr (Or.inl (by rw [h8]; exact List.mem_cons_self ..))), (fun z9 hz9 => List.mem_cons_of_mem _ hz9), (fun _ h9 => h9), (fun z9 hz9 => by rcases List.mem_cons.mp hz9 with e9 | e9; exact Or.inr (by omega); exact Or.inl e9), (fun _ h9 => Or.inl h9), fun z9 hz9 => absurd hz9 (List.not_mem_nil)⟩
        have hlrz : LpR K267 (some lq) rL := fun l9 e9 => by cases e9; have z9 := hlr lq rfl; rw [hbsv, hcsv] at z9; rw [hf283, hf281]; exact ⟨(fun y9 => Classical.byContradiction fun v9 => y9 (and_m1.mpr ⟨Classical.byContradiction fun u9 => v9 (z9.1 u9), Classical.byContradiction fun u9 => v9 (hrL u9)⟩)), z9.2⟩
        have hz288 : SmW B (updA (updA (updA (updA B 16 (upd ((B 16)) cs 28)) 17 (upd ((B 17)) cs xbv)) 18 (upd ((B 18)) cs 0)) 19 (upd ((B 19)) cs (nI hd))) cs := (fun x9 hx9 => ⟨hsw236 x9 hx9, hsw237 x9 hx9, hsw238 x9 hx9, hsw239 x9 hx9⟩)
        have hz289 : BdE K K267 := hbe284
        have hz290 : BeF K K267 := hbf286
        have hz291 : BeL K K267 (some lq) := hbl285
        have hz292 : Bth B (updA (updA (updA (updA B 16 (upd ((B 16)) cs 28)) 17 (upd ((B 17)) cs xbv)) 18 (upd ((B 18)) cs 0)) 19 (upd ((B 19)) cs (nI hd))) := (show Thx (upd (upd (upd (upd (upd (upd (upd (upd F 2 (nI sz)) 5 (nI cs)) 6 (nI rg)) 7 (nI hd)) 8 (nI dp)) 12 (nI vr)) 13 as9) 16 ls9) (upd (upd (upd (upd (upd (upd (upd (upd (upd (upd F 2 (nI sz)) 5 (nI cs)) 6 (nI rg)) 7 (nI hd)) 8 (nI dp)) 12 (nI vr)) 13 as9) 16 ls9) 5 (nI (cs + 1))) 13 (-1)) B (updA (updA (updA (updA B 16 (upd ((B 16)) cs 28)) 17 (upd ((B 17)) cs xbv)) 18 (upd ((B 18)) cs 0)) 19 (upd ((B 19)) cs (nI hd))) from (Thx.b (Thx.b8 (Thx.b (Thx.b (Thx.f (Thx.f Thx.rfl (by omega)) (by omega)) (by omega) (by decide)) (by omega) (by decide)) hng243) (by omega) (by decide))).2
        have hz293 : BtR B (updA (updA (updA (updA B 16 (upd ((B 16)) cs 28)) 17 (upd ((B 17)) cs xbv)) 18 (upd ((B 18)) cs 0)) 19 (upd ((B 19)) cs (nI hd))) := (BtR.up (BtR.up (BtR.up (BtR.up BtR.rfl (by omega)) (by omega)) (by omega)) (by omega))
        have hz294 : cs ≤ (cs + 1) ∧ (cs + 1) + 1 ≤ cs + 2 * tlE g q := (by omega)
        have hz295 : dp ≤ dp ∧ dp ≤ 71 := (by omega)
        have hz296 : AsO ((-1) : Int32) := AsO.m1
        have hz297 : VrS B (updA (updA (updA (updA B 16 (upd ((B 16)) cs 28)) 17 (upd ((B 17)) cs xbv)) 18 (upd ((B 18)) cs 0)) 19 (upd ((B 19)) cs (nI hd))) vr := VrS.rfl
        have hz298 : gr ≤ gr ∧ rg ≤ 625 ∧ rg ≤ gr ∧ (rg = 625 ∨ rg = gr) := (by omega)
        have hz299 : EnV ((updA (updA (updA (updA B 16 (upd ((B 16)) cs 28)) 17 (upd ((B 17)) cs xbv)) 18 (upd ((B 18)) cs 0)) 19 (upd ((B 19)) cs (nI hd))) 26) ((updA (updA (updA (updA B 16 (upd ((B 16)) cs 28)) 17 (upd ((B 17)) cs xbv)) 18 (upd ((B 18)) cs 0)) 19 (upd ((B 19)) cs (nI hd))) 27) nd vr hd c0 sl := hen
        have hz300 : StW pb.1 pb.2.1 pb.2.2.1 pb.2.2.2 Ag Ag240 Q9 Q9 pd (fun z => pd z ∨ z = cs) m9 dp lw cs (cs + 1) as9 ((-1) : Int32) hd hd sl sl gr gr ((updA (updA (updA (updA B 16 (upd ((B 16)) cs 28)) 17 (upd ((B 17)) cs xbv)) 18 (upd ((B 18)) cs 0)) 19 (upd ((B 19)) cs (nI hd))) 16) ((updA (updA (updA (updA B 16 (upd ((B 16)) cs 28)) 17 (upd ((B 17)) cs xbv)) 18 (upd ((B 18)) cs 0)) 19 (upd ((B 19)) cs (nI hd))) 17) ((updA (updA (updA (updA B 16 (upd ((B 16)) cs 28)) 17 (upd ((B 17)) cs xbv)) 18 (upd ((B 18)) cs 0)) 19 (upd ((B 19)) cs (nI hd))) 18) ((updA (updA (updA (updA B 16 (upd ((B 16)) cs 28)) 17 (upd ((B 17)) cs xbv)) 18 (upd ((B 18)) cs 0)) 19 (upd ((B 19)) cs (nI hd))) 19) [] := hst241
        have hz301 : LpS K267 ((updA (updA (updA (updA B 16 (upd ((B 16)) cs 28)) 17 (upd ((B 17)) cs xbv)) 18 (upd ((B 18)) cs 0)) 19 (upd ((B 19)) cs (nI hd))) 16) ((updA (updA (updA (updA B 16 (upd ((B 16)) cs 28)) 17 (upd ((B 17)) cs xbv)) 18 (upd ((B 18)) cs 0)) 19 (upd ((B 19)) cs (nI hd))) 17) Ag240 (fun z => pd z ∨ z = cs) (some lq) lw (cs + 1) hd sl hdL slL (cs :: xb) xc := hlpz
        have hz302 : PdS pd (fun z => pd z ∨ z = cs) xb (cs :: xb) xc xc [] cs (cs + 1) := hpdz
        have hz303 : RgQx (updA (updA (updA (updA B 16 (upd ((B 16)) cs 28)) 17 (upd ((B 17)) cs xbv)) 18 (upd ((B 18)) cs 0)) 19 (upd ((B 19)) cs (nI hd))) Q9 gr nd := hrq
        have hz304 : LpR K267 (some lq) rL := hlrz
        have hO : OKP G h0 a (upd (upd (upd (upd (upd (upd (upd (upd (upd (upd F 2 (nI sz)) 5 (nI (cs + 1))) 6 (nI rg)) 7 (nI hd)) 8 (nI dp)) 12 (nI vr)) 13 ((-1) : Int32)) 14 (F 14)) 15 (F 15)) 16 ls9) (updR (updR (updR R 2 (.ref pq)) 3 (.ref mq)) 4 (va_rf (some lq))) Z (updA (updA (updA (updA B 16 (upd ((B 16)) cs 28)) 17 (upd ((B 17)) cs xbv)) 18 (upd ((B 18)) cs 0)) 19 (upd ((B 19)) cs (nI hd))) J K267 w := hO.to rfl
        refine W.widen (k := 1) (n := 6) (by omega) (by omega) ?_
        have hzz1 : H.size ≤ s.heap.size + (0) := (by have z : 0 ≤ 0 := (by omega); omega)
        have hzz2 : hSl H ≤ hSl s.heap + (0) := (by have z : 0 ≤ 0 := (by omega); omega)
        exact W.vret hx hb hr (fun t99 ht99 hW99 => ⟨⟨_, (w, (K267, (updA (updA (updA (updA B 16 (upd ((B 16)) cs 28)) 17 (upd ((B 17)) cs xbv)) 18 (upd ((B 18)) cs 0)) 19 (upd ((B 19)) cs (nI hd))), (cs + 1), ((-1) : Int32), (F 14), (F 15), dp, Ag240, rg, gr, ls9, Q9, (fun z => pd z ∨ z = cs), (cs :: xb), xc)), rfl, ⟨rfl, hz288, hz289, hz290, hz291, hz292, hz293, hz294, hz295, hz296, hz297, hz298, hz299, hz300, hz301, hz302, hz303, hz304, hO⟩, by rw [ht99]; exact hP, hD, by rw [ht99]; exact hzz1, by rw [ht99]; exact hzz2⟩, hS.F ht99⟩) hS.2.2 dX0_jumpStatement_138

set_option maxHeartbeats 60000000 in
set_option maxRecDepth 100000 in
theorem Y_block (l : Launch) (G : pT) (h0 : Nat) (a : Nat → Nat) (F : Nat → Int32) (R : Nat → Value) (Z : Int64) (B : Nat → Nat → Int32) (J : Nat → Nat → Int64) (K : PK) (w : va_W) (pq : Nat) (dr : Nat) (ml : Nat) (nd : Nat) (nm : Nat) (cp : Nat) (it : Nat → Nat) (s9 : Nat) (q : Nat) (mq : Nat) (cs : Nat) (vr : Nat) (sz : Nat) (n : Nat) (hd : Nat) (dp : Nat) (rg : Nat) (ls9 : Int32) (lp9 : Option Nat) (g : Nat → Nat → Nat) (rk : Nat → Nat) (pb : PNb) (Ag : Nat → AS) (Q9 : RX) (pd : Nat → Prop) (sl : Nat → Nat) (m9 : Nat) (lw : Nat) (c0 : Nat) (rt : Nat) (gr : Nat) (as9 : Int32) (hdL : Nat) (slL : Nat → Nat) (xb : List Nat) (xc : List Nat) (rL : Prop) (hsz : sz ≤ 5000) (hwp : WPr G K g) (hps : PgT G K g (a 1) pq dr ml nd nm cp it s9) (hrk : RkO K rk) (hcs : cs ≤ 10000) (hvr : vr ≤ 30) (hng : Nng (B 18)) (hmq : K.1 mq = 3) (hqT : K.1 q = 1) (hqL : 1 ≤ g 0 q ∧ g 0 q ≤ n) (hrt : K.2.1 10 mq = nI rt) (hrv : TyV nd rt ∧ (bX pb).2.2.2.2.1 m9 = rt) (hdp : dp ≤ 71) (hrg : rg ≤ 625) (hhd : hd ≤ 41 + vr) (hlo : LpO K lp9) (hek : EkA pb K g (B 7) (B 11) sz) (hcO : OwC K dr mq c0) (hna : NaB pb G K (B 11) dr nd sz) (hen : EnV (B 26) (B 27) nd vr hd c0 sl) (hao : AsO as9) (hem : EmB pb B Ag pd m9 dp lw cs as9 hd sl []) (hrm : cs + 2 * tlE g q ≤ 9999) (hgr : rg ≤ 625 ∧ rg ≤ gr ∧ (rg = 625 ∨ rg = gr)) (hns : hd + ndE g q ≤ 41 + vr) (hsk : SkA K g (B 11) sz nd) (hlp : LpS K (B 16) (B 17) Ag pd lp9 lw cs hd sl hdL slL xb xc) (hrq : RgQx B Q9 gr nd) (hrL : ¬ as9 = -1 → rL) (hlr : LpR K lp9 rL) (hkd : K.2.1 0 q = 21) (ist : IhZ l G n) (hO : OKP G h0 a (upd (upd (upd (upd (upd (upd (upd (upd F 2 (nI sz)) 5 (nI cs)) 6 (nI rg)) 7 (nI hd)) 8 (nI dp)) 12 (nI vr)) 13 as9) 16 ls9) (updR (updR (updR R 2 (.ref pq)) 3 (.ref mq)) 4 (va_rf lp9)) Z B J K w) (hl0 : l.stackTraces = false) : PBn l G pX0 yX0_block cX0_block 5 none ({ frames := (5 * n + 46), cells := ((rE (g 2 q) - rS (g 2 q) - 2) + 1), slots := (6 * (rE (g 2 q) - rS (g 2 q) - 2) + 6), locals := (200 * n + 1120) }) [.ref (a 4), .ref q] w (fun (v : Option Value) (u : va_W × (PK × (Nat → Nat → Int32) × Nat × Int32 × Int32 × Int32 × Nat × (Nat → AS) × Nat × Nat × Int32 × RX × (Nat → Prop) × List Nat × List Nat)) => v = none ∧ (SmW B u.2.2.1 cs) ∧ (BdE K u.2.1) ∧ (BeF K u.2.1) ∧ (BeL K u.2.1 lp9) ∧ (Bth B u.2.2.1) ∧ (BtR B u.2.2.1) ∧ (cs ≤ u.2.2.2.1 ∧ u.2.2.2.1 + 4 ≤ cs + 2 * tlE g q) ∧ (dp ≤ u.2.2.2.2.2.2.2.1 ∧ u.2.2.2.2.2.2.2.1 ≤ 71) ∧ (AsO u.2.2.2.2.1) ∧ (VrS B u.2.2.1 vr) ∧ (gr ≤ u.2.2.2.2.2.2.2.2.2.2.1 ∧ u.2.2.2.2.2.2.2.2.2.1 ≤ 625 ∧ u.2.2.2.2.2.2.2.2.2.1 ≤ u.2.2.2.2.2.2.2.2.2.2.1 ∧ (u.2.2.2.2.2.2.2.2.2.1 = 625 ∨ u.2.2.2.2.2.2.2.2.2.1 = u.2.2.2.2.2.2.2.2.2.2.1)) ∧ (EnV (u.2.2.1 26) (u.2.2.1 27) nd vr hd c0 sl) ∧ (StW pb.1 pb.2.1 pb.2.2.1 pb.2.2.2 Ag u.2.2.2.2.2.2.2.2.1 Q9 u.2.2.2.2.2.2.2.2.2.2.2.2.1 pd u.2.2.2.2.2.2.2.2.2.2.2.2.2.1 m9 u.2.2.2.2.2.2.2.1 lw cs u.2.2.2.1 as9 u.2.2.2.2.1 hd hd sl sl gr u.2.2.2.2.2.2.2.2.2.2.1 (u.2.2.1 16) (u.2.2.1 17) (u.2.2.1 18) (u.2.2.1 19) []) ∧ (LpS u.2.1 (u.2.2.1 16) (u.2.2.1 17) u.2.2.2.2.2.2.2.2.1 u.2.2.2.2.2.2.2.2.2.2.2.2.2.1 lp9 lw u.2.2.2.1 hd sl hdL slL u.2.2.2.2.2.2.2.2.2.2.2.2.2.2.1 u.2.2.2.2.2.2.2.2.2.2.2.2.2.2.2) ∧ (PdS pd u.2.2.2.2.2.2.2.2.2.2.2.2.2.1 xb u.2.2.2.2.2.2.2.2.2.2.2.2.2.2.1 xc u.2.2.2.2.2.2.2.2.2.2.2.2.2.2.2 [] cs u.2.2.2.1) ∧ (RgQx u.2.2.1 u.2.2.2.2.2.2.2.2.2.2.2.2.1 u.2.2.2.2.2.2.2.2.2.2.1 nd) ∧ (LpR u.2.1 lp9 rL) ∧ (OKP G h0 a (upd (upd (upd (upd (upd (upd (upd (upd (upd (upd F 2 (nI sz)) 5 (nI u.2.2.2.1)) 6 (nI u.2.2.2.2.2.2.2.2.2.1)) 7 (nI hd)) 8 (nI u.2.2.2.2.2.2.2.1)) 12 (nI vr)) 13 u.2.2.2.2.1) 14 u.2.2.2.2.2.1) 15 u.2.2.2.2.2.2.1) 16 u.2.2.2.2.2.2.2.2.2.2.2.1) (updR (updR (updR R 2 (.ref pq)) 3 (.ref mq)) 4 (va_rf lp9)) Z u.2.2.1 J u.2.1 u.1)) (fun u => u.1) (fun (u : va_W × (PK × (Nat → Nat → Int32) × Nat × Int32 × Int32 × Int32 × Nat × (Nat → AS) × Nat × Nat × Int32 × RX × (Nat → Prop) × List Nat × List Nat)) => (rE (g 2 q) - rS (g 2 q) - 2)) (fun (u : va_W × (PK × (Nat → Nat → Int32) × Nat × Int32 × Int32 × Int32 × Nat × (Nat → AS) × Nat × Nat × Int32 × RX × (Nat → Prop) × List Nat × List Nat)) => (6 * (rE (g 2 q) - rS (g 2 q) - 2))) (fun (u : va_W × (Nat → Int32) × (Nat → Value) × (Nat → Nat → Int32)) => ThQ G h0 a (upd (upd (upd (upd (upd (upd (upd (upd F 2 (nI sz)) 5 (nI cs)) 6 (nI rg)) 7 (nI hd)) 8 (nI dp)) 12 (nI vr)) 13 as9) 16 ls9) (updR (updR (updR R 2 (.ref pq)) 3 (.ref mq)) 4 (va_rf lp9)) Z B J u) (fun u => u.1) := by
  intro sz
  refine vx_ofW (cc := cX0_block) (maxL := 5) (ret := none) (by decide) rfl ?_
  intro p e s m args below meth c s₁ B9 hml hnt hv
  obtain ⟨rfl, hsz, hP, hD0, hE, hX⟩ := hv
  have hx := B9.exec
  have hb := B9.bytes
  have hr := B9.returns
  have hts := atoms_spec (ws := Cond.code yX0_block cX0_block 5 none :: pw) B9.pre
  have hq : ∀ w ∈ pw, w.before _ s = true := fun w h => hts w (List.mem_cons_of_mem _ h)
  have hown : s.vm.findClass RX0 = some m.cls := findClass_of_methodNamed B9.named
  have hlocks := B9.notSynchronized
  subst hsz
  have hD := hD0.self (sz := s.heap.size)
  have hA : ∀ q : Nat, s.heap.size ≤ q → va_A w s.heap.size q := fun q h => Or.inr h
  generalize va_A w s.heap.size = A at hD hE hA ⊢
  have hS : va_S A s.heap s.heap [] := va_S.rf
  have hl := lv_entry ([.ref (a 4), .ref q]) (n := 5) (Nat.le_of_ble_eq_true rfl)
  rw [lg_entry_eq]
  generalize (lg_sl ([.ref (a 4), .ref q]) ++ List.replicate (5 - (lg_sl ([.ref (a 4), .ref q])).length) Slot.unset).toArray = ls at hl ⊢
  have hl : lv_has ls 5 [(0, .ref (a 4)), (1, .ref q)] := hl
  have hpg := hps.1
  have hp1 := hpg.1
  have hp2 := hpg.2.1
  have hp3 := hpg.2.2.1
  have hp4 := hpg.2.2.2.1
  have hp5 := hpg.2.2.2.2.1
  have hp6 := hpg.2.2.2.2.2.1
  have hp8 := hpg.2.2.2.2.2.2.2.1
  have hp9 := hpg.2.2.2.2.2.2.2.2
  have hdr0 : ¬ K.1 dr = 0 := by rw [hp4]; decide
  have hrl := hrv.1.lt hna.1.1
  have hskq := hsk q hqT hqL.1
  have htlq9 : tlE g q = rE (g 2 q) - rS (g 2 q) := rfl
  have hwfa : WfA (1, hd, sl, ([] : List Nat)) := hem.2.2.1
  have hhdp := hem.2.2.2.1
  have hloc := hem.2.1
  have hst0 : StW pb.1 pb.2.1 pb.2.2.1 pb.2.2.2 Ag Ag Q9 Q9 pd pd m9 dp lw cs cs as9 as9 hd hd sl sl gr gr (B 16) (B 17) (B 18) (B 19) ([] : List Nat) := StW.nil hem
  have hnd := hwp.1 q hqT hqL.1
  have hiq := hnd.it
  have htq : tlE g q = rE (g 2 q) - rS (g 2 q) := rfl
  have hsb := hskq.2.2.2.2.2.2.2.2.2.2 (Or.inl hkd)
  have hsb1 := hsb.1 hkd
  refine lv_aload_n hx hb dX0_block_0 rfl (lv_at hl 0 rfl) ?_
  refine c_get (v := .int (nI vr)) (C := RX0) (Tc := TX0) (N := 13) (ci := 0) hx hb hq pin_wsX00 hown hE hP hO 24 (sg_24 G h0 a _ _ _ _ _) rfl 5 (by decide) (hq _ pw_42) (fun _ h9 => h9) rfl dX0_block_1 ?_
  refine lv_istore_n (lv' := [(2, .int (nI vr)), (0, .ref (a 4)), (1, .ref q)]) hx hb dX0_block_4 rfl hl (by decide) rfl (fun ls hl => ?_)
  refine lv_aload_n hx hb dX0_block_5 rfl (lv_at hl 1 rfl) ?_
  refine c_get (v := .ref (a 2)) (C := RX0) (Tc := TX0) (N := 13) (ci := 0) hx hb hq pin_wsX00 hown hE hP hO 24 (sg_24 G h0 a _ _ _ _ _) rfl 1 (by decide) (hq _ pw_5) (fun _ h9 => h9) rfl dX0_block_6 ?_
  refine c_get (v := .int (nI hd)) (C := RX1) (Tc := TX1) (N := 13) (ci := 1) hx hb hq pin_wsX10 hown hE hP hO 13 (sg_13 G h0 a _ _ _ _ _) rfl 11 (by decide) (hq _ pw_54) (fun _ h9 => h9) rfl dX0_block_9 ?_
  refine lv_istore_n (lv' := [(3, .int (nI hd)), (2, .int (nI vr)), (0, .ref (a 4)), (1, .ref q)]) hx hb dX0_block_12 rfl hl (by decide) rfl (fun ls hl => ?_)
  have loop_g : ∀ (n_g : Nat) (k2 : Nat) (o2 : Option Nat) (K2 : PK) (B2 : Nat → Nat → Int32) (cs2 : Nat) (as2 : Int32) (wt2 : Int32) (wf2 : Int32) (vr2 : Nat) (hd2 : Nat) (dp2 : Nat) (rg2 : Nat) (gr2 : Nat) (ls2 : Int32) (A2 : Nat → AS) (sl2 : Nat → Nat) (Q2 : RX) (pd2 : Nat → Prop) (xb2 : List Nat) (xc2 : List Nat) (t2 : Nat) (c2 : Nat) (H : Heap) (locs : List Loc) (ls : Array Slot) (w : va_W), k2 ≤ 1000000000000000000000001 → 1000000000000000000000001 + 1 ≤ k2 + n_g → (BdE K K2) → (BeF K K2) → (BeL K K2 lp9) → (BtR B B2) → (Bth B B2) → (Nng (B2 18)) → (SmW B B2 cs) → (VrS B B2 vr) → (AsO as2) → (dp ≤ dp2 ∧ dp2 ≤ 71) → (gr ≤ gr2 ∧ rg2 ≤ 625 ∧ rg2 ≤ gr2 ∧ (rg2 = 625 ∨ rg2 = gr2)) → (StW pb.1 pb.2.1 pb.2.2.1 pb.2.2.2 Ag A2 Q9 Q2 pd pd2 m9 dp2 lw cs cs2 as9 as2 hd hd2 sl sl2 gr gr2 (B2 16) (B2 17) (B2 18) (B2 19) ([] : List Nat)) → (LpS (K2) (B2 16) (B2 17) (A2) (pd2) lp9 lw (cs2) hd2 (sl2) hdL slL (xb2) (xc2)) → (PdS pd pd2 xb xb2 xc xc2 ([] : List Nat) cs cs2) → (RgQx B2 Q2 gr2 nd) → (LpR K2 lp9 rL) → (EnV (B2 26) (B2 27) nd vr2 hd2 c0 sl2) → (vr ≤ vr2 ∧ vr2 ≤ 30 ∧ hd2 + vr = hd + vr2) → (cs < cs2 ∨ (hd2 = hd ∧ sl2 = sl)) → (MmO K2 g q o2 t2 k2) → (c2 + rS (g 2 q) + 1 ≤ t2 ∧ c2 ≤ rE (g 2 q) - rS (g 2 q) - 2 ∧ t2 + 1 ≤ rE (g 2 q)) → (cs ≤ cs2 ∧ cs2 ≤ cs + 2 * (t2 - (rS (g 2 q) + 1))) → va_P G.1 pCl w H → va_D A w → va_S A s.heap H locs → OKP G h0 a (upd (upd (upd (upd (upd (upd (upd (upd (upd (upd F 2 (nI sz)) 5 (nI cs2)) 6 (nI rg2)) 7 (nI hd2)) 8 (nI dp2)) 12 (nI vr2)) 13 as2) 14 wt2) 15 wf2) 16 ls2) (updR (updR (updR R 2 (.ref pq)) 3 (.ref mq)) 4 (va_rf lp9)) Z B2 J K2 w → lv_has ls 5 [(4, va_rf o2), (3, .int (nI hd)), (2, .int (nI vr)), (1, .ref q), (0, .ref (a 4))] → W p l e (headSpec (Cond.code yX0_block cX0_block 5 none :: pw) ({ frames := (5 * n + 46), cells := ((rE (g 2 q) - rS (g 2 q) - 2) + 1), slots := (6 * (rE (g 2 q) - rS (g 2 q) - 2) + 6), locals := (200 * n + 1120) } : Room)).room s m ([.ref (a 4), .ref q] : List Value).toArray below meth c H locs c2 (6 * c2) (vx_MQ below (pQn G A (fun (v : Option Value) (u : va_W × (PK × (Nat → Nat → Int32) × Nat × Int32 × Int32 × Int32 × Nat × (Nat → AS) × Nat × Nat × Int32 × RX × (Nat → Prop) × List Nat × List Nat)) => v = none ∧ (SmW B u.2.2.1 cs) ∧ (BdE K u.2.1) ∧ (BeF K u.2.1) ∧ (BeL K u.2.1 lp9) ∧ (Bth B u.2.2.1) ∧ (BtR B u.2.2.1) ∧ (cs ≤ u.2.2.2.1 ∧ u.2.2.2.1 + 4 ≤ cs + 2 * tlE g q) ∧ (dp ≤ u.2.2.2.2.2.2.2.1 ∧ u.2.2.2.2.2.2.2.1 ≤ 71) ∧ (AsO u.2.2.2.2.1) ∧ (VrS B u.2.2.1 vr) ∧ (gr ≤ u.2.2.2.2.2.2.2.2.2.2.1 ∧ u.2.2.2.2.2.2.2.2.2.1 ≤ 625 ∧ u.2.2.2.2.2.2.2.2.2.1 ≤ u.2.2.2.2.2.2.2.2.2.2.1 ∧ (u.2.2.2.2.2.2.2.2.2.1 = 625 ∨ u.2.2.2.2.2.2.2.2.2.1 = u.2.2.2.2.2.2.2.2.2.2.1)) ∧ (EnV (u.2.2.1 26) (u.2.2.1 27) nd vr hd c0 sl) ∧ (StW pb.1 pb.2.1 pb.2.2.1 pb.2.2.2 Ag u.2.2.2.2.2.2.2.2.1 Q9 u.2.2.2.2.2.2.2.2.2.2.2.2.1 pd u.2.2.2.2.2.2.2.2.2.2.2.2.2.1 m9 u.2.2.2.2.2.2.2.1 lw cs u.2.2.2.1 as9 u.2.2.2.2.1 hd hd sl sl gr u.2.2.2.2.2.2.2.2.2.2.1 (u.2.2.1 16) (u.2.2.1 17) (u.2.2.1 18) (u.2.2.1 19) []) ∧ (LpS u.2.1 (u.2.2.1 16) (u.2.2.1 17) u.2.2.2.2.2.2.2.2.1 u.2.2.2.2.2.2.2.2.2.2.2.2.2.1 lp9 lw u.2.2.2.1 hd sl hdL slL u.2.2.2.2.2.2.2.2.2.2.2.2.2.2.1 u.2.2.2.2.2.2.2.2.2.2.2.2.2.2.2) ∧ (PdS pd u.2.2.2.2.2.2.2.2.2.2.2.2.2.1 xb u.2.2.2.2.2.2.2.2.2.2.2.2.2.2.1 xc u.2.2.2.2.2.2.2.2.2.2.2.2.2.2.2 [] cs u.2.2.2.1) ∧ (RgQx u.2.2.1 u.2.2.2.2.2.2.2.2.2.2.2.2.1 u.2.2.2.2.2.2.2.2.2.2.1 nd) ∧ (LpR u.2.1 lp9 rL) ∧ (OKP G h0 a (upd (upd (upd (upd (upd (upd (upd (upd (upd (upd F 2 (nI sz)) 5 (nI u.2.2.2.1)) 6 (nI u.2.2.2.2.2.2.2.2.2.1)) 7 (nI hd)) 8 (nI u.2.2.2.2.2.2.2.1)) 12 (nI vr)) 13 u.2.2.2.2.1) 14 u.2.2.2.2.2.1) 15 u.2.2.2.2.2.2.1) 16 u.2.2.2.2.2.2.2.2.2.2.2.1) (updR (updR (updR R 2 (.ref pq)) 3 (.ref mq)) 4 (va_rf lp9)) Z u.2.2.1 J u.2.1 u.1)) (fun u => u.1) (fun (u : va_W × (PK × (Nat → Nat → Int32) × Nat × Int32 × Int32 × Int32 × Nat × (Nat → AS) × Nat × Nat × Int32 × RX × (Nat → Prop) × List Nat × List Nat)) => (rE (g 2 q) - rS (g 2 q) - 2)) (fun (u : va_W × (PK × (Nat → Nat → Int32) × Nat × Int32 × Int32 × Int32 × Nat × (Nat → AS) × Nat × Nat × Int32 × RX × (Nat → Prop) × List Nat × List Nat)) => (6 * (rE (g 2 q) - rS (g 2 q) - 2)))) (pXX G A (fun (u : va_W × (Nat → Int32) × (Nat → Value) × (Nat → Nat → Int32)) => ThQ G h0 a (upd (upd (upd (upd (upd (upd (upd (upd F 2 (nI sz)) 5 (nI cs)) 6 (nI rg)) 7 (nI hd)) 8 (nI dp)) 12 (nI vr)) 13 as9) 16 ls9) (updR (updR (updR R 2 (.ref pq)) 3 (.ref mq)) 4 (va_rf lp9)) Z B J u) (fun u => u.1)) ([.ref (a 4), .ref q] : List Value).toArray s ({ frames := (5 * n + 46), cells := ((rE (g 2 q) - rS (g 2 q) - 2) + 1), slots := (6 * (rE (g 2 q) - rS (g 2 q) - 2) + 6), locals := (200 * n + 1120) } : Room).cells ({ frames := (5 * n + 46), cells := ((rE (g 2 q) - rS (g 2 q) - 2) + 1), slots := (6 * (rE (g 2 q) - rS (g 2 q) - 2) + 6), locals := (200 * n + 1120) } : Room).slots A) (F0 m 19 ls []) := by
    intro n_g
    induction n_g with
    | zero => intro k2 o2 K2 B2 cs2 as2 wt2 wf2 vr2 hd2 dp2 rg2 gr2 ls2 A2 sl2 Q2 pd2 xb2 xc2 t2 c2 H locs ls w hk_g hn_g; omega
    | succ n_g ih_g =>
      intro k2 o2 K2 B2 cs2 as2 wt2 wf2 vr2 hd2 dp2 rg2 gr2 ls2 A2 sl2 Q2 pd2 xb2 xc2 t2 c2 H locs ls w hk_g hn_g hbe2 hbf2 hbl2 hbr2 hbb2 hng2 hsw2 hvs2 hao2 hdp2 hgr2 hst2 hlp2 hpd2 hrq2 hlr2 hen2 hv2 hsc2 hmm2 hc2 hcs2 hP hD hS hO hl
      have hf1 : K2.1 pq = 7 := (BdE.T hbe2 hp1 (by decide))
      have hf2 : K2.2.2.1 18 pq = some (a 1) := (BdE.C hbe2 (by rw [hp1]; decide) 18).trans hp2
      have hf3 : K2.2.2.1 14 pq = some dr := (BdE.C hbe2 (by rw [hp1]; decide) 14).trans hp3
      have hf4 : K2.1 dr = 8 := (BdE.T hbe2 hp4 (by decide))
      have hf5 : K2.2.2.1 15 pq = some ml := (BdE.C hbe2 (by rw [hp1]; decide) 15).trans hp5
      have hf6 : K2.1 ml = 5 := (BdE.T hbe2 hp6 (by decide))
      have hf7 : K2.2.1 24 pq = (nI nd) := (BdE.I hbe2 (by rw [hp1]; decide) (by decide) (by decide)).trans hp8
      have hf8 : K2.1 q = 1 := (BdE.T hbe2 hqT (by decide))
      have hf9 : K2.1 mq = 3 := (BdE.T hbe2 hmq (by decide))
      have hf10 : K2.2.1 10 mq = (nI rt) := (BdE.I hbe2 (by rw [hmq]; decide) (by decide) (by decide)).trans hrt
      have hf11 : K2.2.1 0 q = 21 := (BdE.I hbe2 (by rw [hqT]; decide) (by decide) (by decide)).trans hkd
      have hsn2 := hst2.1.2.2.2.1
      rcases o2 with _ | x9
      · have hl : lv_has ls 5 [(4, .null), (3, .int (nI hd)), (2, .int (nI vr)), (1, .ref q), (0, .ref (a 4))] := hl
        refine W.eq (g2 := F0 m 19 ls []) rfl ?_
        refine lv_aloadN hx hb dX0_block_19 (lv_at hl 0 rfl) ?_
        refine lv_ifnullN (tgt := 41) hx hb dX0_block_21 (by decide) ?_
        refine lv_aload_n hx hb dX0_block_41 rfl (lv_at hl 4 rfl) ?_
        refine lv_iload_n hx hb dX0_block_42 rfl (lv_at hl 2 rfl) ?_
        refine lv_iload_n hx hb dX0_block_43 rfl (lv_at hl 1 rfl) ?_
        have hO : OKW G h0 a (upd (upd (upd (upd (upd (upd (upd (upd (upd (upd F 2 (nI sz)) 5 (nI cs2)) 6 (nI rg2)) 7 (nI hd2)) 8 (nI dp2)) 12 (nI vr2)) 13 as2) 14 wt2) 15 wf2) 16 ls2) (updR (updR (updR R 2 (.ref pq)) 3 (.ref mq)) 4 (va_rf lp9)) Z B2 J K2.1 (fun q99 x99 => x99 = rep G a K2 q99) w := hO.to rfl
        obtain ⟨_, qr15, hqr16⟩ := hO.2.1 24 _ (sg_24 G h0 a _ _ _ _ _)
        refine pc_V0 (G := G) (As := [.int (nI vr), .int (nI hd)]) (rest := []) hx hb hml hown hq hE hX pX0_al hP hD hS hA hl.1 (B_endScope l G h0 a (upd (upd (upd (upd (upd (upd (upd (upd (upd (upd F 2 (nI sz)) 5 (nI cs2)) 6 (nI rg2)) 7 (nI hd2)) 8 (nI dp2)) 12 (nI vr2)) 13 as2) 14 wt2) 15 wf2) 16 ls2) (updR (updR (updR R 2 (.ref pq)) 3 (.ref mq)) 4 (va_rf lp9)) Z B2 J K2.1 (fun q99 x99 => x99 = rep G a K2 q99) w (nI vr) (nI hd) hO) (gV pw_303 pw_304 pw_305 pw_63 pw_99) hV_X0_endScope qr15 0 hqr16 rfl rfl rfl (Nat.le_of_ble_eq_true rfl) dX0_block_44 ⟨(by show c2 + 0 ≤ ((rE (g 2 q) - rS (g 2 q) - 2) + 1); omega), (by show (6 * c2) + 0 ≤ (6 * (rE (g 2 q) - rS (g 2 q) - 2) + 6); omega)⟩ ⟨(by show 2 + 1 ≤ (5 * n + 46); omega), (by show 8 + (3 + 11) + 60 ≤ (200 * n + 1120); omega)⟩ (fun v14 u12 H locs hw13 hP hD hS => ?_)
        obtain ⟨w, _⟩ := u12
        obtain ⟨hw13, hO⟩ := hw13
        obtain rfl : v14 = none := hw13
        have hO : OKP G h0 a (upd (upd (upd (upd (upd (upd (upd (upd (upd (upd F 2 (nI sz)) 5 (nI cs2)) 6 (nI rg2)) 7 (nI hd)) 8 (nI dp2)) 12 (nI vr)) 13 as2) 14 wt2) 15 wf2) 16 ls2) (updR (updR (updR R 2 (.ref pq)) 3 (.ref mq)) 4 (va_rf lp9)) Z B2 J K2 w := hO.to rfl
        refine W.widen (k := c2) (n := (6 * c2)) (by show c2 + 0 ≤ c2; omega) (by show (6 * c2) + 0 ≤ (6 * c2); omega) ?_
        refine W.eq (g2 := F0 m 47 ls []) rfl ?_
        obtain ⟨Ag17, hst18, hag19⟩ : ∃ A5 : Nat → AS, StW pb.1 pb.2.1 pb.2.2.1 pb.2.2.2 Ag A5 Q9 Q2 pd pd2 m9 dp2 lw cs cs2 as9 as2 hd hd sl sl gr gr2 (B2 16) (B2 17) (B2 18) (B2 19) ([] : List Nat) ∧ ∀ x9 : Nat, x9 < cs2 → A5 x9 = A2 x9 := StW.scope2 hst2 hsc2 (by omega) hwfa (by omega)
        have hlp20 : LpS K2 (B2 16) (B2 17) Ag17 pd2 lp9 lw cs2 hd sl hdL slL xb2 xc2 := LpS.same (LpS.to hlp2 hlp) (fun _ _ _ _ _ => rfl) (fun z9 hz9 => ⟨rfl, rfl, hag19 z9 hz9⟩) (fun _ h9 => h9) hlp2.1 (Nat.le_refl _) ⟨Nat.le_refl _, fun _ _ => rfl⟩
        have hen21 : EnV (B2 26) (B2 27) nd vr hd c0 sl := EnV.back hen hvs2
        refine W_size (fun hz1 hz2 => ?_)
        refine vx_ret ?_
        have hz22 : SmW B B2 cs := (fun x9 hx9 => ⟨(fun x9 hx9 => (hsw2 x9 hx9).1) x9 hx9, (fun x9 hx9 => (hsw2 x9 hx9).2.1) x9 hx9, (fun x9 hx9 => (hsw2 x9 hx9).2.2.1) x9 hx9, (fun x9 hx9 => (hsw2 x9 hx9).2.2.2) x9 hx9⟩)
        have hz23 : BdE K K2 := hbe2
        have hz24 : BeF K K2 := hbf2
        have hz25 : BeL K K2 lp9 := hbl2
        have hz26 : Bth B B2 := (show Thx (upd (upd (upd (upd (upd (upd (upd (upd F 2 (nI sz)) 5 (nI cs)) 6 (nI rg)) 7 (nI hd)) 8 (nI dp)) 12 (nI vr)) 13 as9) 16 ls9) (upd (upd (upd (upd (upd (upd (upd (upd (upd (upd (upd (upd (upd (upd (upd F 2 (nI sz)) 5 (nI cs)) 6 (nI rg)) 7 (nI hd)) 8 (nI dp)) 12 (nI vr)) 13 as9) 16 ls9) 5 (nI cs2)) 6 (nI rg2)) 8 (nI dp2)) 13 as2) 14 wt2) 15 wf2) 16 ls2) B B2 from (Thx.f (Thx.f (Thx.f (Thx.f (Thx.f (Thx.f (Thx.f (Bth.thx hbb2) (by omega)) (by omega)) (by omega)) (by omega)) (by omega)) (by omega)) (by omega))).2
        have hz27 : BtR B B2 := hbr2
        have hz28 : cs ≤ cs2 ∧ cs2 + 4 ≤ cs + 2 * tlE g q := (by omega)
        have hz29 : dp ≤ dp2 ∧ dp2 ≤ 71 := (by omega)
        have hz30 : AsO as2 := hao2
        have hz31 : VrS B B2 vr := hvs2
        have hz32 : gr ≤ gr2 ∧ rg2 ≤ 625 ∧ rg2 ≤ gr2 ∧ (rg2 = 625 ∨ rg2 = gr2) := (by omega)
        have hz33 : EnV (B2 26) (B2 27) nd vr hd c0 sl := hen21
        have hz34 : StW pb.1 pb.2.1 pb.2.2.1 pb.2.2.2 Ag Ag17 Q9 Q2 pd pd2 m9 dp2 lw cs cs2 as9 as2 hd hd sl sl gr gr2 (B2 16) (B2 17) (B2 18) (B2 19) [] := hst18
        have hz35 : LpS K2 (B2 16) (B2 17) Ag17 pd2 lp9 lw cs2 hd sl hdL slL xb2 xc2 := hlp20
        have hz36 : PdS pd pd2 xb xb2 xc xc2 [] cs cs2 := hpd2
        have hz37 : RgQx B2 Q2 gr2 nd := hrq2
        have hz38 : LpR K2 lp9 rL := hlr2
        have hO : OKP G h0 a (upd (upd (upd (upd (upd (upd (upd (upd (upd (upd F 2 (nI sz)) 5 (nI cs2)) 6 (nI rg2)) 7 (nI hd)) 8 (nI dp2)) 12 (nI vr)) 13 as2) 14 wt2) 15 wf2) 16 ls2) (updR (updR (updR R 2 (.ref pq)) 3 (.ref mq)) 4 (va_rf lp9)) Z B2 J K2 w := hO.to rfl
        refine W.widen (k := ((rE (g 2 q) - rS (g 2 q) - 2) + 1)) (n := (6 * (rE (g 2 q) - rS (g 2 q) - 2) + 6)) (by omega) (by omega) ?_
        have hzz1 : H.size ≤ s.heap.size + ((rE (g 2 q) - rS (g 2 q) - 2)) := (by have z : c2 ≤ (rE (g 2 q) - rS (g 2 q) - 2) := (by omega); omega)
        have hzz2 : hSl H ≤ hSl s.heap + ((6 * (rE (g 2 q) - rS (g 2 q) - 2))) := (by have z : (6 * c2) ≤ (6 * (rE (g 2 q) - rS (g 2 q) - 2)) := (by omega); omega)
        exact W.vret hx hb hr (fun t99 ht99 hW99 => ⟨⟨_, (w, (K2, B2, cs2, as2, wt2, wf2, dp2, Ag17, rg2, gr2, ls2, Q2, pd2, xb2, xc2)), rfl, ⟨rfl, hz22, hz23, hz24, hz25, hz26, hz27, hz28, hz29, hz30, hz31, hz32, hz33, hz34, hz35, hz36, hz37, hz38, hO⟩, by rw [ht99]; exact hP, hD, by rw [ht99]; exact hzz1, by rw [ht99]; exact hzz2⟩, hS.F ht99⟩) hS.2.2 dX0_block_47
      · have hl : lv_has ls 5 [(4, .ref x9), (3, .int (nI hd)), (2, .int (nI vr)), (1, .ref q), (0, .ref (a 4))] := hl
        refine W.eq (g2 := F0 m 19 ls []) rfl ?_
        have hxd := hmm2 x9 rfl
        have hxT := hxd.1
        have hxv : 1 ≤ g 0 x9 ∧ g 0 x9 + 1 ≤ n := ⟨hxd.2.1, (by have z := hxd.2.2.1; omega)⟩
        have hxe := MmO.end21 (BdE.wp hbe2 hwp).1 hqL.1 hf11 hxT hxd.2.1 hxd.2.2.2.1
        have hxt := hxd.2.2.2.2
        have htx : tlE g x9 = rE (g 2 x9) - rS (g 2 x9) := rfl
        have hxn := hsb.2 x9 (hbe2.old1 hxT) hxd.2.1 hxd.2.2.2.1
        refine lv_aload hx hb dX0_block_19 (lv_at hl 0 rfl) ?_
        refine lv_ifnull hx hb dX0_block_21 ?_
        refine lv_aload_n hx hb dX0_block_24 rfl (lv_at hl 4 rfl) ?_
        refine lv_aload hx hb dX0_block_25 (lv_at hl 0 rfl) ?_
        refine lv_iconst (v := 1) hx hb dX0_block_27 (by decide) ?_
        have htl39 : tlE g x9 = rE (g 2 x9) - rS (g 2 x9) := rfl
        have hO : OKP G h0 a (upd (upd (upd (upd (upd (upd (upd (upd (upd (upd (upd (upd (upd (upd (upd (upd (upd (upd (upd (upd (upd (upd (upd (upd (upd F 2 (nI sz)) 5 (nI cs)) 6 (nI rg)) 7 (nI hd)) 8 (nI dp)) 12 (nI vr)) 13 as9) 16 ls9) 5 (nI cs2)) 6 (nI rg2)) 7 (nI hd2)) 8 (nI dp2)) 12 (nI vr2)) 13 as2) 14 wt2) 15 wf2) 16 ls2) 2 (nI sz)) 5 (nI cs2)) 6 (nI rg2)) 7 (nI hd2)) 8 (nI dp2)) 12 (nI vr2)) 13 as2) 16 ls2) (updR (updR (updR (updR (updR (updR R 2 (.ref pq)) 3 (.ref mq)) 4 (va_rf lp9)) 2 (.ref pq)) 3 (.ref mq)) 4 (va_rf lp9)) Z B2 J K2 w := hO.to rfl
        obtain ⟨_, qr43, hqr44⟩ := hO.2.1 24 _ (sg_24 G h0 a _ _ _ _ _)
        refine pn_V0 (G := G) (As := [.ref x9, .int (nI 1)]) (rest := []) hx hb hml hown hq hE hX pX0_al hP hD hS hA hl.1 ((ist (n - 1) (by omega)) h0 a (upd (upd (upd (upd (upd (upd (upd (upd (upd (upd (upd (upd (upd (upd (upd (upd (upd F 2 (nI sz)) 5 (nI cs)) 6 (nI rg)) 7 (nI hd)) 8 (nI dp)) 12 (nI vr)) 13 as9) 16 ls9) 5 (nI cs2)) 6 (nI rg2)) 7 (nI hd2)) 8 (nI dp2)) 12 (nI vr2)) 13 as2) 14 wt2) 15 wf2) 16 ls2) (updR (updR (updR R 2 (.ref pq)) 3 (.ref mq)) 4 (va_rf lp9)) Z B2 J K2 w pq dr ml nd nm cp it s9 x9 mq cs2 vr2 sz 1 hd2 dp2 rg2 ls2 lp9 g rk pb A2 Q2 pd2 sl2 m9 lw c0 rt gr2 as2 hdL slL xb2 xc2 rL (by omega) (BdE.wp hbe2 hwp) (BdE.pt hbe2 hwp hps) (BdE.rko hbe2 hrk) (by omega) (by omega) hng2 hf9 hxT ⟨hxv.1, (by have z9 := hxv; omega)⟩ hf10 hrv (by omega) (by omega) (by omega) (LpO.be hbe2 hlo) (EkA.be hbe2 (hbr2 7 (by decide)) (hbr2 11 (by decide)) hek) (OwC.be hbe2 hmq hdr0 hcO) (NaB.be hbe2 hbf2 hwp hps.2.1 hdr0 (hbr2 11 (by decide)) hna) hen2 hao2 hst2.1 (by omega) (by omega) (by omega) (SkA.be hbe2 (hbr2 11 (by decide)) hsk) hlp2 hrq2 (fun z9 => hrL (hst2.2.2.2.2.2.1 z9)) hlr2 (by omega) hO hl0) (gV pw_300 pw_301 pw_302 pw_63 pw_323) hV_X0_statement qr43 0 hqr44 rfl rfl rfl (Nat.le_of_ble_eq_true rfl) dX0_block_28 ⟨(by show c2 + ((rE (g 2 x9) - rS (g 2 x9)) + 1) ≤ ((rE (g 2 q) - rS (g 2 q) - 2) + 1); omega), (by show (6 * c2) + (6 * (rE (g 2 x9) - rS (g 2 x9)) + 6) ≤ (6 * (rE (g 2 q) - rS (g 2 q) - 2) + 6); omega)⟩ ⟨(by show (5 * (n - 1) + 50) + 1 ≤ (5 * n + 46); omega), (by show 8 + (3 + 11) + (200 * (n - 1) + 1200) ≤ (200 * n + 1120); omega)⟩ (fun v42 u40 H locs hw41 hP hD hS => ?_) (fun ux ce9 q9 H9 locs9 hux hP9 hD9 hS9 hce hcv hcl => pb_out ux (ThQ.up (Thx.same (Thx.same (Thx.same (Thx.same (Thx.same (Thx.same (Thx.same (Thx.same (Thx.f (Thx.f (Thx.f (Thx.f (Thx.f (Thx.f (Thx.f (Thx.f (Thx.f (Bth.thx hbb2) (by omega)) (by omega)) (by omega)) (by omega)) (by omega)) (by omega)) (by omega)) (by omega)) (by omega)) rfl) rfl) rfl) rfl) rfl) rfl) rfl) rfl) (show RhX (updR (updR (updR R 2 (.ref pq)) 3 (.ref mq)) 4 (va_rf lp9)) (updR (updR (updR (updR (updR (updR R 2 (.ref pq)) 3 (.ref mq)) 4 (va_rf lp9)) 2 (.ref pq)) 3 (.ref mq)) 4 (va_rf lp9)) from fun k9 hk9 => by unfold updR; simp only [show ¬ k9 = 1 by omega, show ¬ k9 = 2 by omega, show ¬ k9 = 3 by omega, show ¬ k9 = 4 by omega, if_false]) hux) hnt hlocks hce hcv hcl hP9 hD9 hS9 (by show c2 + ((rE (g 2 x9) - rS (g 2 x9)) + 1) ≤ ((rE (g 2 q) - rS (g 2 q) - 2) + 1); omega) (by show (6 * c2) + (6 * (rE (g 2 x9) - rS (g 2 x9)) + 6) ≤ (6 * (rE (g 2 q) - rS (g 2 q) - 2) + 6); omega))
        obtain ⟨w, K45, B46, cs47, as48, wt49, wf50, vr51, hd52, dp53, Ag54, sl55, rg56, gr57, ls58, Q59, pd60, xb61, xc62⟩ := u40
        obtain ⟨hw41, h63, h64, h65, h66, h67, h68, h69, h70, h71, h72, h73, h74, h75, h76, h77, h78, h79, h80, h81, h82, hO⟩ := hw41
        have h63 : SmW B2 B46 cs2 := h63
        have h64 : BdE K2 K45 := h64
        have h65 : BeF K2 K45 := h65
        have h66 : BeL K2 K45 lp9 := h66
        have h67 : Bth B2 B46 := h67
        have h68 : BtR B2 B46 := h68
        have h69 : cs2 ≤ cs47 ∧ cs47 + 0 ≤ cs2 + 2 * tlE g x9 := h69
        have h70 : dp2 ≤ dp53 ∧ dp53 ≤ 71 := h70
        have h71 : vr2 ≤ vr51 ∧ vr51 ≤ 30 ∧ hd52 + vr2 = hd2 + vr51 := h71
        have h72 : AsO as48 := h72
        have h73 : VrS B2 B46 vr2 := h73
        have h74 : cs2 < cs47 ∨ (hd52 = hd2 ∧ sl55 = sl2) := h74
        have h75 : ¬ K2.2.1 0 x9 = 22 → hd52 = hd2 := h75
        have h76 : gr2 ≤ gr57 ∧ rg56 ≤ 625 ∧ rg56 ≤ gr57 ∧ (rg56 = 625 ∨ rg56 = gr57) := h76
        have h77 : EnV (B46 26) (B46 27) nd vr51 hd52 c0 sl55 := h77
        have h78 : StW pb.1 pb.2.1 pb.2.2.1 pb.2.2.2 A2 Ag54 Q2 Q59 pd2 pd60 m9 dp53 lw cs2 cs47 as2 as48 hd2 hd52 sl2 sl55 gr2 gr57 (B46 16) (B46 17) (B46 18) (B46 19) [] := h78
        have h79 : LpS K45 (B46 16) (B46 17) Ag54 pd60 lp9 lw cs47 hd52 sl55 hdL slL xb61 xc62 := h79
        have h80 : PdS pd2 pd60 xb2 xb61 xc2 xc62 [] cs2 cs47 := h80
        have h81 : RgQx B46 Q59 gr57 nd := h81
        have h82 : LpR K45 lp9 rL := h82
        obtain rfl : v42 = none := hw41
        have hf83 : K45.1 pq = 7 := (BdE.T h64 hf1 (by decide))
        have hf84 : K45.2.2.1 18 pq = some (a 1) := (BdE.C h64 (by rw [hf1]; decide) 18).trans hf2
        have hf85 : K45.2.2.1 14 pq = some dr := (BdE.C h64 (by rw [hf1]; decide) 14).trans hf3
        have hf86 : K45.1 dr = 8 := (BdE.T h64 hf4 (by decide))
        have hf87 : K45.2.2.1 15 pq = some ml := (BdE.C h64 (by rw [hf1]; decide) 15).trans hf5
        have hf88 : K45.1 ml = 5 := (BdE.T h64 hf6 (by decide))
        have hf89 : K45.2.1 24 pq = (nI nd) := (BdE.I h64 (by rw [hf1]; decide) (by decide) (by decide)).trans hf7
        have hf90 : K45.1 q = 1 := (BdE.T h64 hf8 (by decide))
        have hf91 : K45.1 mq = 3 := (BdE.T h64 hf9 (by decide))
        have hf92 : K45.2.1 10 mq = (nI rt) := (BdE.I h64 (by rw [hf9]; decide) (by decide) (by decide)).trans hf10
        have hf93 : K45.2.1 0 q = 21 := (BdE.I h64 (by rw [hf8]; decide) (by decide) (by decide)).trans hf11
        have hf94 : K45.1 x9 = 1 := (BdE.T h64 hxT (by decide))
        have hO : OKP G h0 a (upd (upd (upd (upd (upd (upd (upd (upd (upd (upd F 2 (nI sz)) 5 (nI cs47)) 6 (nI rg56)) 7 (nI hd52)) 8 (nI dp53)) 12 (nI vr51)) 13 as48) 14 wt49) 15 wf50) 16 ls58) (updR (updR (updR R 2 (.ref pq)) 3 (.ref mq)) 4 (va_rf lp9)) Z B46 J K45 w := hO.to rfl
        refine W.widen (k := (c2 + (rE (g 2 x9) - rS (g 2 x9)))) (n := ((6 * c2) + (6 * (rE (g 2 x9) - rS (g 2 x9))))) (by show c2 + (rE (g 2 x9) - rS (g 2 x9)) ≤ (c2 + (rE (g 2 x9) - rS (g 2 x9))); omega) (by show (6 * c2) + (6 * (rE (g 2 x9) - rS (g 2 x9))) ≤ ((6 * c2) + (6 * (rE (g 2 x9) - rS (g 2 x9)))); omega) ?_
        refine W.eq (g2 := F0 m 31 ls []) rfl ?_
        have hbe95 := BdE.trans hbe2 h64
        have hbb96 : Bth B B46 := Bth.trans (show Thx (upd (upd (upd (upd (upd (upd (upd (upd F 2 (nI sz)) 5 (nI cs)) 6 (nI rg)) 7 (nI hd)) 8 (nI dp)) 12 (nI vr)) 13 as9) 16 ls9) (upd (upd (upd (upd (upd (upd (upd (upd (upd (upd (upd (upd (upd (upd (upd (upd (upd F 2 (nI sz)) 5 (nI cs)) 6 (nI rg)) 7 (nI hd)) 8 (nI dp)) 12 (nI vr)) 13 as9) 16 ls9) 5 (nI cs2)) 6 (nI rg2)) 7 (nI hd2)) 8 (nI dp2)) 12 (nI vr2)) 13 as2) 14 wt2) 15 wf2) 16 ls2) B B2 from (Thx.f (Thx.f (Thx.f (Thx.f (Thx.f (Thx.f (Thx.f (Thx.f (Thx.f (Bth.thx hbb2) (by omega)) (by omega)) (by omega)) (by omega)) (by omega)) (by omega)) (by omega)) (by omega)) (by omega))).2 h67
        have hng97 : Nng (B46 18) := h67.2 hng2
        have hsw98 : ∀ x9 : Nat, x9 < cs → (B46 16) x9 = B 16 x9 := fun x9 hx9 => ((h63 x9 (by omega)).1).trans ((fun x9 hx9 => (hsw2 x9 hx9).1) x9 hx9)
        have hsw99 : ∀ x9 : Nat, x9 < cs → (B46 17) x9 = B 17 x9 := fun x9 hx9 => ((h63 x9 (by omega)).2.1).trans ((fun x9 hx9 => (hsw2 x9 hx9).2.1) x9 hx9)
        have hsw100 : ∀ x9 : Nat, x9 < cs → (B46 18) x9 = B 18 x9 := fun x9 hx9 => ((h63 x9 (by omega)).2.2.1).trans ((fun x9 hx9 => (hsw2 x9 hx9).2.2.1) x9 hx9)
        have hsw101 : ∀ x9 : Nat, x9 < cs → (B46 19) x9 = B 19 x9 := fun x9 hx9 => ((h63 x9 (by omega)).2.2.2).trans ((fun x9 hx9 => (hsw2 x9 hx9).2.2.2) x9 hx9)
        have hbf102 := BeF.trans hbf2 h65 hbe2
        have hbl104 : BeL K K45 lp9 := BeL.trans hbl2 h66 hbe2
        have hbr103 : BtR B B46 := BtR.trans hbr2 h68
        have hvs105 : VrS B B46 vr := VrS.trans hvs2 h73 (by omega)
        have hst106 : StW pb.1 pb.2.1 pb.2.2.1 pb.2.2.2 Ag Ag54 Q9 Q59 pd pd60 m9 dp53 lw cs cs47 as9 as48 hd hd52 sl sl55 gr gr57 (B46 16) (B46 17) (B46 18) (B46 19) ([] : List Nat) := StW.seq hst2 (by omega) (fun x9 hx9 => ⟨(h63 x9 hx9).1, (h63 x9 hx9).2.1⟩) h78
        have hsn107 := hst106.1.2.2.2.1
        have hpd108 : PdS pd pd60 xb xb61 xc xc62 ([] : List Nat) cs cs47 := PdS.call hpd2 h80 (by omega) (by omega)
        refine lv_aload hx hb dX0_block_31 (lv_at hl 0 rfl) ?_
        rcases ho110 : K45.2.2.1 4 x9 with _ | o109
        · skip
          refine p_get (v := .null) (C := RX7) (Tc := TX7) (N := 11) (ci := 13) hx hb hq pin_wsX70 hown hE hP hO (by rw [hf94]; decide) (rep_1 hf94) rfl 10 (by decide) (hq _ pw_170) (fun _ h9 => h9) (congrArg (fun z => some (va_rf z)) ho110) dX0_block_33 ?_
          refine lv_astoreN (lv' := [(4, .null), (3, .int (nI hd)), (2, .int (nI vr)), (1, .ref q), (0, .ref (a 4))]) hx hb dX0_block_36 hl (by decide) rfl (fun ls hl => ?_)
          refine lv_goto (tgt := 19) hx hb dX0_block_38 (by decide) ?_
          refine W.widen (k := (c2 + (rE (g 2 x9) - rS (g 2 x9)))) (n := (6 * (c2 + (rE (g 2 x9) - rS (g 2 x9))))) (by show (c2 + (rE (g 2 x9) - rS (g 2 x9))) ≤ _; omega) (by show ((6 * c2) + (6 * (rE (g 2 x9) - rS (g 2 x9)))) ≤ _; omega) ?_
          have hO : OKP G h0 a (upd (upd (upd (upd (upd (upd (upd (upd (upd (upd F 2 (nI sz)) 5 (nI cs47)) 6 (nI rg56)) 7 (nI hd52)) 8 (nI dp53)) 12 (nI vr51)) 13 as48) 14 wt49) 15 wf50) 16 ls58) (updR (updR (updR R 2 (.ref pq)) 3 (.ref mq)) 4 (va_rf lp9)) Z B46 J K45 w := hO.to rfl
          exact ih_g (g 2 x9 + 1) none K45 B46 cs47 as48 wt49 wf50 vr51 hd52 dp53 rg56 gr57 ls58 Ag54 sl55 Q59 pd60 xb61 xc62 (rE (g 2 x9)) (c2 + (rE (g 2 x9) - rS (g 2 x9))) _ _ _ _ (by omega) (by omega) hbe95 hbf102 hbl104 hbr103 ((show Thx (upd (upd (upd (upd (upd (upd (upd (upd F 2 (nI sz)) 5 (nI cs)) 6 (nI rg)) 7 (nI hd)) 8 (nI dp)) 12 (nI vr)) 13 as9) 16 ls9) (upd (upd (upd (upd (upd (upd (upd (upd (upd (upd (upd (upd (upd (upd (upd (upd (upd F 2 (nI sz)) 5 (nI cs)) 6 (nI rg)) 7 (nI hd)) 8 (nI dp)) 12 (nI vr)) 13 as9) 16 ls9) 5 (nI cs47)) 6 (nI rg56)) 7 (nI hd52)) 8 (nI dp53)) 12 (nI vr51)) 13 as48) 14 wt49) 15 wf50) 16 ls58) B B46 from (Thx.f (Thx.f (Thx.f (Thx.f (Thx.f (Thx.f (Thx.f (Thx.f (Thx.f (Bth.thx hbb96) (by omega)) (by omega)) (by omega)) (by omega)) (by omega)) (by omega)) (by omega)) (by omega)) (by omega))).2) hng97 (fun x9 hx9 => ⟨hsw98 x9 hx9, hsw99 x9 hx9, hsw100 x9 hx9, hsw101 x9 hx9⟩) hvs105 h72 (by omega) (by omega) hst106 h79 hpd108 h81 h82 h77 (by omega) (by rcases h74 with z9 | ⟨z9, z8⟩; exact Or.inl (by omega); (rcases hsc2 with y9 | ⟨y9, y8⟩; exact Or.inl (by omega); exact Or.inr ⟨z9.trans y9, z8.trans y8⟩)) (MmO.next (BdE.wp hbe95 hwp).1 hqL.1 hf94 hxd.2.1 hxd.2.2.2.1 ho110) (by omega) (by omega) hP hD hS hO (lv_sub hl [0, 1, 2, 3, 4] rfl)
        · skip
          refine p_get (v := .ref o109) (C := RX7) (Tc := TX7) (N := 11) (ci := 13) hx hb hq pin_wsX70 hown hE hP hO (by rw [hf94]; decide) (rep_1 hf94) rfl 10 (by decide) (hq _ pw_170) (fun _ h9 => h9) (congrArg (fun z => some (va_rf z)) ho110) dX0_block_33 ?_
          refine lv_astore (lv' := [(4, .ref o109), (3, .int (nI hd)), (2, .int (nI vr)), (1, .ref q), (0, .ref (a 4))]) hx hb dX0_block_36 hl (by decide) rfl (fun ls hl => ?_)
          refine lv_goto (tgt := 19) hx hb dX0_block_38 (by decide) ?_
          refine W.widen (k := (c2 + (rE (g 2 x9) - rS (g 2 x9)))) (n := (6 * (c2 + (rE (g 2 x9) - rS (g 2 x9))))) (by show (c2 + (rE (g 2 x9) - rS (g 2 x9))) ≤ _; omega) (by show ((6 * c2) + (6 * (rE (g 2 x9) - rS (g 2 x9)))) ≤ _; omega) ?_
          have hO : OKP G h0 a (upd (upd (upd (upd (upd (upd (upd (upd (upd (upd F 2 (nI sz)) 5 (nI cs47)) 6 (nI rg56)) 7 (nI hd52)) 8 (nI dp53)) 12 (nI vr51)) 13 as48) 14 wt49) 15 wf50) 16 ls58) (updR (updR (updR R 2 (.ref pq)) 3 (.ref mq)) 4 (va_rf lp9)) Z B46 J K45 w := hO.to rfl
          exact ih_g (g 2 x9 + 1) (some o109) K45 B46 cs47 as48 wt49 wf50 vr51 hd52 dp53 rg56 gr57 ls58 Ag54 sl55 Q59 pd60 xb61 xc62 (rE (g 2 x9)) (c2 + (rE (g 2 x9) - rS (g 2 x9))) _ _ _ _ (by omega) (by omega) hbe95 hbf102 hbl104 hbr103 ((show Thx (upd (upd (upd (upd (upd (upd (upd (upd F 2 (nI sz)) 5 (nI cs)) 6 (nI rg)) 7 (nI hd)) 8 (nI dp)) 12 (nI vr)) 13 as9) 16 ls9) (upd (upd (upd (upd (upd (upd (upd (upd (upd (upd (upd (upd (upd (upd (upd (upd (upd F 2 (nI sz)) 5 (nI cs)) 6 (nI rg)) 7 (nI hd)) 8 (nI dp)) 12 (nI vr)) 13 as9) 16 ls9) 5 (nI cs47)) 6 (nI rg56)) 7 (nI hd52)) 8 (nI dp53)) 12 (nI vr51)) 13 as48) 14 wt49) 15 wf50) 16 ls58) B B46 from (Thx.f (Thx.f (Thx.f (Thx.f (Thx.f (Thx.f (Thx.f (Thx.f (Thx.f (Bth.thx hbb96) (by omega)) (by omega)) (by omega)) (by omega)) (by omega)) (by omega)) (by omega)) (by omega)) (by omega))).2) hng97 (fun x9 hx9 => ⟨hsw98 x9 hx9, hsw99 x9 hx9, hsw100 x9 hx9, hsw101 x9 hx9⟩) hvs105 h72 (by omega) (by omega) hst106 h79 hpd108 h81 h82 h77 (by omega) (by rcases h74 with z9 | ⟨z9, z8⟩; exact Or.inl (by omega); (rcases hsc2 with y9 | ⟨y9, y8⟩; exact Or.inl (by omega); exact Or.inr ⟨z9.trans y9, z8.trans y8⟩)) (MmO.next (BdE.wp hbe95 hwp).1 hqL.1 hf94 hxd.2.1 hxd.2.2.2.1 ho110) (by omega) (by omega) hP hD hS hO (lv_sub hl [0, 1, 2, 3, 4] rfl)
  refine lv_aload_n hx hb dX0_block_13 rfl (lv_at hl 3 rfl) ?_
  rcases ho112 : K.2.2.1 0 q with _ | o111
  · skip
    refine p_get (v := .null) (C := RX7) (Tc := TX7) (N := 11) (ci := 13) hx hb hq pin_wsX70 hown hE hP hO (by rw [hqT]; decide) (rep_1 hqT) rfl 6 (by decide) (hq _ pw_180) (fun _ h9 => h9) (congrArg (fun z => some (va_rf z)) ho112) dX0_block_14 ?_
    refine lv_astoreN (lv' := [(4, .null), (3, .int (nI hd)), (2, .int (nI vr)), (0, .ref (a 4)), (1, .ref q)]) hx hb dX0_block_17 hl (by decide) rfl (fun ls hl => ?_)
    refine W.widen (k := 0) (n := (6 * 0)) (by show 0 ≤ _; omega) (by show 0 ≤ _; omega) ?_
    have hO : OKP G h0 a (upd (upd (upd (upd (upd (upd (upd (upd (upd (upd F 2 (nI sz)) 5 (nI cs)) 6 (nI rg)) 7 (nI hd)) 8 (nI dp)) 12 (nI vr)) 13 as9) 14 (F 14)) 15 (F 15)) 16 ls9) (updR (updR (updR R 2 (.ref pq)) 3 (.ref mq)) 4 (va_rf lp9)) Z B J K w := hO.to rfl
    exact loop_g (1000000000000000000000001 + 1) 0 none K B cs as9 (F 14) (F 15) vr hd dp rg gr ls9 Ag sl Q9 pd xb xc (rS (g 2 q) + 1) 0 _ _ _ _ (by omega) (by omega) BdE.rfl BeF.rfl BeL.rfl BtR.rfl ((show Thx (upd (upd (upd (upd (upd (upd (upd (upd F 2 (nI sz)) 5 (nI cs)) 6 (nI rg)) 7 (nI hd)) 8 (nI dp)) 12 (nI vr)) 13 as9) 16 ls9) (upd (upd (upd (upd (upd (upd (upd (upd F 2 (nI sz)) 5 (nI cs)) 6 (nI rg)) 7 (nI hd)) 8 (nI dp)) 12 (nI vr)) 13 as9) 16 ls9) B B from Thx.rfl).2) hng (fun x9 hx9 => ⟨(fun _ _ => rfl) x9 hx9, (fun _ _ => rfl) x9 hx9, (fun _ _ => rfl) x9 hx9, (fun _ _ => rfl) x9 hx9⟩) VrS.rfl hao (by omega) (by omega) hst0 hlp (PdS.rfl (cs1 := cs)) hrq hlr hen (by omega) (Or.inr ⟨rfl, rfl⟩) (MmO.first21 hwp.1 hqT hqL.1 hkd ho112) (by omega) (by omega) hP hD hS hO (lv_sub hl [0, 1, 2, 4, 3] rfl)
  · skip
    refine p_get (v := .ref o111) (C := RX7) (Tc := TX7) (N := 11) (ci := 13) hx hb hq pin_wsX70 hown hE hP hO (by rw [hqT]; decide) (rep_1 hqT) rfl 6 (by decide) (hq _ pw_180) (fun _ h9 => h9) (congrArg (fun z => some (va_rf z)) ho112) dX0_block_14 ?_
    refine lv_astore (lv' := [(4, .ref o111), (3, .int (nI hd)), (2, .int (nI vr)), (0, .ref (a 4)), (1, .ref q)]) hx hb dX0_block_17 hl (by decide) rfl (fun ls hl => ?_)
    refine W.widen (k := 0) (n := (6 * 0)) (by show 0 ≤ _; omega) (by show 0 ≤ _; omega) ?_
    have hO : OKP G h0 a (upd (upd (upd (upd (upd (upd (upd (upd (upd (upd F 2 (nI sz)) 5 (nI cs)) 6 (nI rg)) 7 (nI hd)) 8 (nI dp)) 12 (nI vr)) 13 as9) 14 (F 14)) 15 (F 15)) 16 ls9) (updR (updR (updR R 2 (.ref pq)) 3 (.ref mq)) 4 (va_rf lp9)) Z B J K w := hO.to rfl
    exact loop_g (1000000000000000000000001 + 1) 0 (some o111) K B cs as9 (F 14) (F 15) vr hd dp rg gr ls9 Ag sl Q9 pd xb xc (rS (g 2 q) + 1) 0 _ _ _ _ (by omega) (by omega) BdE.rfl BeF.rfl BeL.rfl BtR.rfl ((show Thx (upd (upd (upd (upd (upd (upd (upd (upd F 2 (nI sz)) 5 (nI cs)) 6 (nI rg)) 7 (nI hd)) 8 (nI dp)) 12 (nI vr)) 13 as9) 16 ls9) (upd (upd (upd (upd (upd (upd (upd (upd F 2 (nI sz)) 5 (nI cs)) 6 (nI rg)) 7 (nI hd)) 8 (nI dp)) 12 (nI vr)) 13 as9) 16 ls9) B B from Thx.rfl).2) hng (fun x9 hx9 => ⟨(fun _ _ => rfl) x9 hx9, (fun _ _ => rfl) x9 hx9, (fun _ _ => rfl) x9 hx9, (fun _ _ => rfl) x9 hx9⟩) VrS.rfl hao (by omega) (by omega) hst0 hlp (PdS.rfl (cs1 := cs)) hrq hlr hen (by omega) (Or.inr ⟨rfl, rfl⟩) (MmO.first21 hwp.1 hqT hqL.1 hkd ho112) (by omega) (by omega) hP hD hS hO (lv_sub hl [0, 1, 2, 4, 3] rfl)

theorem sw_out33 {x : Int32} (h21 : ¬ x = 21) (h22 : ¬ x = 22) (h23 : ¬ x = 23) (h24 : ¬ x = 24) (h25 : ¬ x = 25) (h26 : ¬ x = 26) (h27 : ¬ x = 27) (h28 : ¬ x = 28) (h29 : ¬ x = 29) (h30 : ¬ x = 30) (h31 : ¬ x = 31) (h32 : ¬ x = 32) (h33 : ¬ x = 33) : x.toInt < 21 ∨ 33 < x.toInt := by
  have a21 : ¬ x.toInt = 21 := tJ_ne (n := 21) (by decide) h21
  have a22 : ¬ x.toInt = 22 := tJ_ne (n := 22) (by decide) h22
  have a23 : ¬ x.toInt = 23 := tJ_ne (n := 23) (by decide) h23
  have a24 : ¬ x.toInt = 24 := tJ_ne (n := 24) (by decide) h24
  have a25 : ¬ x.toInt = 25 := tJ_ne (n := 25) (by decide) h25
  have a26 : ¬ x.toInt = 26 := tJ_ne (n := 26) (by decide) h26
  have a27 : ¬ x.toInt = 27 := tJ_ne (n := 27) (by decide) h27
  have a28 : ¬ x.toInt = 28 := tJ_ne (n := 28) (by decide) h28
  have a29 : ¬ x.toInt = 29 := tJ_ne (n := 29) (by decide) h29
  have a30 : ¬ x.toInt = 30 := tJ_ne (n := 30) (by decide) h30
  have a31 : ¬ x.toInt = 31 := tJ_ne (n := 31) (by decide) h31
  have a32 : ¬ x.toInt = 32 := tJ_ne (n := 32) (by decide) h32
  have a33 : ¬ x.toInt = 33 := tJ_ne (n := 33) (by decide) h33
  omega
set_option maxHeartbeats 90000000 in
set_option maxRecDepth 100000 in
theorem Y_statement0 (l : Launch) (G : pT) (h0 : Nat) (a : Nat → Nat) (F : Nat → Int32) (R : Nat → Value) (Z : Int64) (B : Nat → Nat → Int32) (J : Nat → Nat → Int64) (K : PK) (w : va_W) (pq : Nat) (dr : Nat) (ml : Nat) (nd : Nat) (nm : Nat) (cp : Nat) (it : Nat → Nat) (s9 : Nat) (q : Nat) (mq : Nat) (cs : Nat) (vr : Nat) (sz : Nat) (n : Nat) (tf : Nat) (hd : Nat) (dp : Nat) (rg : Nat) (ls9 : Int32) (lp9 : Option Nat) (g : Nat → Nat → Nat) (rk : Nat → Nat) (pb : PNb) (Ag : Nat → AS) (Q9 : RX) (pd : Nat → Prop) (sl : Nat → Nat) (m9 : Nat) (lw : Nat) (c0 : Nat) (rt : Nat) (gr : Nat) (as9 : Int32) (hdL : Nat) (slL : Nat → Nat) (xb : List Nat) (xc : List Nat) (rL : Prop) (hsz : sz ≤ 5000) (hwp : WPr G K g) (hps : PgT G K g (a 1) pq dr ml nd nm cp it s9) (hrk : RkO K rk) (hcs : cs ≤ 10000) (hvr : vr ≤ 30) (hng : Nng (B 18)) (hmq : K.1 mq = 3) (hqT : K.1 q = 1) (hqL : 1 ≤ g 0 q ∧ g 0 q ≤ n) (hrt : K.2.1 10 mq = nI rt) (hrv : TyV nd rt ∧ (bX pb).2.2.2.2.1 m9 = rt) (hdp : dp ≤ 71) (hrg : rg ≤ 625) (hhd : hd ≤ 41 + vr) (hlo : LpO K lp9) (hek : EkA pb K g (B 7) (B 11) sz) (hcO : OwC K dr mq c0) (hna : NaB pb G K (B 11) dr nd sz) (hen : EnV (B 26) (B 27) nd vr hd c0 sl) (hao : AsO as9) (hem : EmB pb B Ag pd m9 dp lw cs as9 hd sl []) (hrm : cs + 2 * tlE g q ≤ 9998) (hgr : rg ≤ 625 ∧ rg ≤ gr ∧ (rg = 625 ∨ rg = gr)) (hns : hd + ndE g q ≤ 41 + vr) (hsk : SkA K g (B 11) sz nd) (hlp : LpS K (B 16) (B 17) Ag pd lp9 lw cs hd sl hdL slL xb xc) (hrq : RgQx B Q9 gr nd) (hrL : ¬ as9 = -1 → rL) (hlr : LpR K lp9 rL) (htf : tf ≤ 1) (ist : IhZ l G n) (hO : OKP G h0 a (upd (upd (upd (upd (upd (upd (upd (upd F 2 (nI sz)) 5 (nI cs)) 6 (nI rg)) 7 (nI hd)) 8 (nI dp)) 12 (nI vr)) 13 as9) 16 ls9) (updR (updR (updR R 2 (.ref pq)) 3 (.ref mq)) 4 (va_rf lp9)) Z B J K w) (hl0 : l.stackTraces = false) : PBn l G pX0 yX0_statement cX0_statement 3 none ({ frames := (5 * n + 50), cells := ((rE (g 2 q) - rS (g 2 q)) + 1), slots := (6 * (rE (g 2 q) - rS (g 2 q)) + 6), locals := (200 * n + 1200) }) [.ref (a 4), .ref q, .int (nI tf)] w (fun (v : Option Value) (u : va_W × (PK × (Nat → Nat → Int32) × Nat × Int32 × Int32 × Int32 × Nat × Nat × Nat × (Nat → AS) × (Nat → Nat) × Nat × Nat × Int32 × RX × (Nat → Prop) × List Nat × List Nat)) => v = none ∧ (SmW B u.2.2.1 cs) ∧ (BdE K u.2.1) ∧ (BeF K u.2.1) ∧ (BeL K u.2.1 lp9) ∧ (Bth B u.2.2.1) ∧ (BtR B u.2.2.1) ∧ (cs ≤ u.2.2.2.1 ∧ u.2.2.2.1 + 0 ≤ cs + 2 * tlE g q) ∧ (dp ≤ u.2.2.2.2.2.2.2.2.2.1 ∧ u.2.2.2.2.2.2.2.2.2.1 ≤ 71) ∧ (vr ≤ u.2.2.2.2.2.2.2.1 ∧ u.2.2.2.2.2.2.2.1 ≤ 30 ∧ u.2.2.2.2.2.2.2.2.1 + vr = hd + u.2.2.2.2.2.2.2.1) ∧ (AsO u.2.2.2.2.1) ∧ (VrS B u.2.2.1 vr) ∧ (cs < u.2.2.2.1 ∨ (u.2.2.2.2.2.2.2.2.1 = hd ∧ u.2.2.2.2.2.2.2.2.2.2.2.1 = sl)) ∧ (¬ K.2.1 0 q = 22 → u.2.2.2.2.2.2.2.2.1 = hd) ∧ (gr ≤ u.2.2.2.2.2.2.2.2.2.2.2.2.2.1 ∧ u.2.2.2.2.2.2.2.2.2.2.2.2.1 ≤ 625 ∧ u.2.2.2.2.2.2.2.2.2.2.2.2.1 ≤ u.2.2.2.2.2.2.2.2.2.2.2.2.2.1 ∧ (u.2.2.2.2.2.2.2.2.2.2.2.2.1 = 625 ∨ u.2.2.2.2.2.2.2.2.2.2.2.2.1 = u.2.2.2.2.2.2.2.2.2.2.2.2.2.1)) ∧ (EnV (u.2.2.1 26) (u.2.2.1 27) nd u.2.2.2.2.2.2.2.1 u.2.2.2.2.2.2.2.2.1 c0 u.2.2.2.2.2.2.2.2.2.2.2.1) ∧ (StW pb.1 pb.2.1 pb.2.2.1 pb.2.2.2 Ag u.2.2.2.2.2.2.2.2.2.2.1 Q9 u.2.2.2.2.2.2.2.2.2.2.2.2.2.2.2.1 pd u.2.2.2.2.2.2.2.2.2.2.2.2.2.2.2.2.1 m9 u.2.2.2.2.2.2.2.2.2.1 lw cs u.2.2.2.1 as9 u.2.2.2.2.1 hd u.2.2.2.2.2.2.2.2.1 sl u.2.2.2.2.2.2.2.2.2.2.2.1 gr u.2.2.2.2.2.2.2.2.2.2.2.2.2.1 (u.2.2.1 16) (u.2.2.1 17) (u.2.2.1 18) (u.2.2.1 19) []) ∧ (LpS u.2.1 (u.2.2.1 16) (u.2.2.1 17) u.2.2.2.2.2.2.2.2.2.2.1 u.2.2.2.2.2.2.2.2.2.2.2.2.2.2.2.2.1 lp9 lw u.2.2.2.1 u.2.2.2.2.2.2.2.2.1 u.2.2.2.2.2.2.2.2.2.2.2.1 hdL slL u.2.2.2.2.2.2.2.2.2.2.2.2.2.2.2.2.2.1 u.2.2.2.2.2.2.2.2.2.2.2.2.2.2.2.2.2.2) ∧ (PdS pd u.2.2.2.2.2.2.2.2.2.2.2.2.2.2.2.2.1 xb u.2.2.2.2.2.2.2.2.2.2.2.2.2.2.2.2.2.1 xc u.2.2.2.2.2.2.2.2.2.2.2.2.2.2.2.2.2.2 [] cs u.2.2.2.1) ∧ (RgQx u.2.2.1 u.2.2.2.2.2.2.2.2.2.2.2.2.2.2.2.1 u.2.2.2.2.2.2.2.2.2.2.2.2.2.1 nd) ∧ (LpR u.2.1 lp9 rL) ∧ (OKP G h0 a (upd (upd (upd (upd (upd (upd (upd (upd (upd (upd F 2 (nI sz)) 5 (nI u.2.2.2.1)) 6 (nI u.2.2.2.2.2.2.2.2.2.2.2.2.1)) 7 (nI u.2.2.2.2.2.2.2.2.1)) 8 (nI u.2.2.2.2.2.2.2.2.2.1)) 12 (nI u.2.2.2.2.2.2.2.1)) 13 u.2.2.2.2.1) 14 u.2.2.2.2.2.1) 15 u.2.2.2.2.2.2.1) 16 u.2.2.2.2.2.2.2.2.2.2.2.2.2.2.1) (updR (updR (updR R 2 (.ref pq)) 3 (.ref mq)) 4 (va_rf lp9)) Z u.2.2.1 J u.2.1 u.1)) (fun u => u.1) (fun (u : va_W × (PK × (Nat → Nat → Int32) × Nat × Int32 × Int32 × Int32 × Nat × Nat × Nat × (Nat → AS) × (Nat → Nat) × Nat × Nat × Int32 × RX × (Nat → Prop) × List Nat × List Nat)) => (rE (g 2 q) - rS (g 2 q))) (fun (u : va_W × (PK × (Nat → Nat → Int32) × Nat × Int32 × Int32 × Int32 × Nat × Nat × Nat × (Nat → AS) × (Nat → Nat) × Nat × Nat × Int32 × RX × (Nat → Prop) × List Nat × List Nat)) => (6 * (rE (g 2 q) - rS (g 2 q)))) (fun (u : va_W × (Nat → Int32) × (Nat → Value) × (Nat → Nat → Int32)) => ThQ G h0 a (upd (upd (upd (upd (upd (upd (upd (upd F 2 (nI sz)) 5 (nI cs)) 6 (nI rg)) 7 (nI hd)) 8 (nI dp)) 12 (nI vr)) 13 as9) 16 ls9) (updR (updR (updR R 2 (.ref pq)) 3 (.ref mq)) 4 (va_rf lp9)) Z B J u) (fun u => u.1) := by
  intro sz
  refine vx_ofW (cc := cX0_statement) (maxL := 3) (ret := none) (by decide) rfl ?_
  intro p e s m args below meth c s₁ B9 hml hnt hv
  obtain ⟨rfl, hsz, hP, hD0, hE, hX⟩ := hv
  have hx := B9.exec
  have hb := B9.bytes
  have hr := B9.returns
  have hts := atoms_spec (ws := Cond.code yX0_statement cX0_statement 3 none :: pw) B9.pre
  have hq : ∀ w ∈ pw, w.before _ s = true := fun w h => hts w (List.mem_cons_of_mem _ h)
  have hown : s.vm.findClass RX0 = some m.cls := findClass_of_methodNamed B9.named
  have hlocks := B9.notSynchronized
  subst hsz
  have hD := hD0.self (sz := s.heap.size)
  have hA : ∀ q : Nat, s.heap.size ≤ q → va_A w s.heap.size q := fun q h => Or.inr h
  generalize va_A w s.heap.size = A at hD hE hA ⊢
  have hS : va_S A s.heap s.heap [] := va_S.rf
  have hl := lv_entry ([.ref (a 4), .ref q, .int (nI tf)]) (n := 3) (Nat.le_of_ble_eq_true rfl)
  rw [lg_entry_eq]
  generalize (lg_sl ([.ref (a 4), .ref q, .int (nI tf)]) ++ List.replicate (3 - (lg_sl ([.ref (a 4), .ref q, .int (nI tf)])).length) Slot.unset).toArray = ls at hl ⊢
  have hl : lv_has ls 3 [(0, .ref (a 4)), (1, .ref q), (2, .int (nI tf))] := hl
  have hpg := hps.1
  have hp1 := hpg.1
  have hp2 := hpg.2.1
  have hp3 := hpg.2.2.1
  have hp4 := hpg.2.2.2.1
  have hp5 := hpg.2.2.2.2.1
  have hp6 := hpg.2.2.2.2.2.1
  have hp8 := hpg.2.2.2.2.2.2.2.1
  have hp9 := hpg.2.2.2.2.2.2.2.2
  have hdr0 : ¬ K.1 dr = 0 := by rw [hp4]; decide
  have hrl := hrv.1.lt hna.1.1
  have hskq := hsk q hqT hqL.1
  have htlq9 : tlE g q = rE (g 2 q) - rS (g 2 q) := rfl
  have hwfa : WfA (1, hd, sl, ([] : List Nat)) := hem.2.2.1
  have hhdp := hem.2.2.2.1
  have hloc := hem.2.1
  have hst0 : StW pb.1 pb.2.1 pb.2.2.1 pb.2.2.2 Ag Ag Q9 Q9 pd pd m9 dp lw cs cs as9 as9 hd hd sl sl gr gr (B 16) (B 17) (B 18) (B 19) ([] : List Nat) := StW.nil hem
  obtain ⟨kd, hkd⟩ : ∃ z : Int32, K.2.1 0 q = z := ⟨_, rfl⟩
  have hnd := hwp.1 q hqT hqL.1
  have hone := NdO.one hnd
  have cut_d : ∀ (B2 : Nat → Nat → Int32) (cs2 : Nat) (A2 : Nat → AS) (H : Heap) (locs : List Loc) (ls : Array Slot) (w : va_W), (Bth B B2) → (Nng (B2 18)) → (SmW B B2 cs) → (BtR B B2) → (VrS B B2 vr) → (cs ≤ cs2 ∧ cs2 ≤ cs + 1) → (StW pb.1 pb.2.1 pb.2.2.1 pb.2.2.2 Ag A2 Q9 Q9 pd pd m9 dp lw cs cs2 as9 as9 hd hd sl sl gr gr (B2 16) (B2 17) (B2 18) (B2 19) []) → (LpS K (B2 16) (B2 17) A2 pd lp9 lw cs2 hd sl hdL slL xb xc) → (EnV (B2 26) (B2 27) nd vr hd c0 sl) → (RgQx B2 Q9 gr nd) → va_P G.1 pCl w H → va_D A w → va_S A s.heap H locs → OKP G h0 a (upd (upd (upd (upd (upd (upd (upd (upd F 2 (nI sz)) 5 (nI cs2)) 6 (nI rg)) 7 (nI hd)) 8 (nI dp)) 12 (nI vr)) 13 as9) 16 ls9) (updR (updR (updR R 2 (.ref pq)) 3 (.ref mq)) 4 (va_rf lp9)) Z B2 J K w → lv_has ls 3 [(2, .int (nI tf)), (1, .ref q), (0, .ref (a 4))] → W p l e (headSpec (Cond.code yX0_statement cX0_statement 3 none :: pw) ({ frames := (5 * n + 50), cells := ((rE (g 2 q) - rS (g 2 q)) + 1), slots := (6 * (rE (g 2 q) - rS (g 2 q)) + 6), locals := (200 * n + 1200) } : Room)).room s m ([.ref (a 4), .ref q, .int (nI tf)] : List Value).toArray below meth c H locs 0 0 (vx_MQ below (pQn G A (fun (v : Option Value) (u : va_W × (PK × (Nat → Nat → Int32) × Nat × Int32 × Int32 × Int32 × Nat × Nat × Nat × (Nat → AS) × (Nat → Nat) × Nat × Nat × Int32 × RX × (Nat → Prop) × List Nat × List Nat)) => v = none ∧ (SmW B u.2.2.1 cs) ∧ (BdE K u.2.1) ∧ (BeF K u.2.1) ∧ (BeL K u.2.1 lp9) ∧ (Bth B u.2.2.1) ∧ (BtR B u.2.2.1) ∧ (cs ≤ u.2.2.2.1 ∧ u.2.2.2.1 + 0 ≤ cs + 2 * tlE g q) ∧ (dp ≤ u.2.2.2.2.2.2.2.2.2.1 ∧ u.2.2.2.2.2.2.2.2.2.1 ≤ 71) ∧ (vr ≤ u.2.2.2.2.2.2.2.1 ∧ u.2.2.2.2.2.2.2.1 ≤ 30 ∧ u.2.2.2.2.2.2.2.2.1 + vr = hd + u.2.2.2.2.2.2.2.1) ∧ (AsO u.2.2.2.2.1) ∧ (VrS B u.2.2.1 vr) ∧ (cs < u.2.2.2.1 ∨ (u.2.2.2.2.2.2.2.2.1 = hd ∧ u.2.2.2.2.2.2.2.2.2.2.2.1 = sl)) ∧ (¬ K.2.1 0 q = 22 → u.2.2.2.2.2.2.2.2.1 = hd) ∧ (gr ≤ u.2.2.2.2.2.2.2.2.2.2.2.2.2.1 ∧ u.2.2.2.2.2.2.2.2.2.2.2.2.1 ≤ 625 ∧ u.2.2.2.2.2.2.2.2.2.2.2.2.1 ≤ u.2.2.2.2.2.2.2.2.2.2.2.2.2.1 ∧ (u.2.2.2.2.2.2.2.2.2.2.2.2.1 = 625 ∨ u.2.2.2.2.2.2.2.2.2.2.2.2.1 = u.2.2.2.2.2.2.2.2.2.2.2.2.2.1)) ∧ (EnV (u.2.2.1 26) (u.2.2.1 27) nd u.2.2.2.2.2.2.2.1 u.2.2.2.2.2.2.2.2.1 c0 u.2.2.2.2.2.2.2.2.2.2.2.1) ∧ (StW pb.1 pb.2.1 pb.2.2.1 pb.2.2.2 Ag u.2.2.2.2.2.2.2.2.2.2.1 Q9 u.2.2.2.2.2.2.2.2.2.2.2.2.2.2.2.1 pd u.2.2.2.2.2.2.2.2.2.2.2.2.2.2.2.2.1 m9 u.2.2.2.2.2.2.2.2.2.1 lw cs u.2.2.2.1 as9 u.2.2.2.2.1 hd u.2.2.2.2.2.2.2.2.1 sl u.2.2.2.2.2.2.2.2.2.2.2.1 gr u.2.2.2.2.2.2.2.2.2.2.2.2.2.1 (u.2.2.1 16) (u.2.2.1 17) (u.2.2.1 18) (u.2.2.1 19) []) ∧ (LpS u.2.1 (u.2.2.1 16) (u.2.2.1 17) u.2.2.2.2.2.2.2.2.2.2.1 u.2.2.2.2.2.2.2.2.2.2.2.2.2.2.2.2.1 lp9 lw u.2.2.2.1 u.2.2.2.2.2.2.2.2.1 u.2.2.2.2.2.2.2.2.2.2.2.1 hdL slL u.2.2.2.2.2.2.2.2.2.2.2.2.2.2.2.2.2.1 u.2.2.2.2.2.2.2.2.2.2.2.2.2.2.2.2.2.2) ∧ (PdS pd u.2.2.2.2.2.2.2.2.2.2.2.2.2.2.2.2.1 xb u.2.2.2.2.2.2.2.2.2.2.2.2.2.2.2.2.2.1 xc u.2.2.2.2.2.2.2.2.2.2.2.2.2.2.2.2.2.2 [] cs u.2.2.2.1) ∧ (RgQx u.2.2.1 u.2.2.2.2.2.2.2.2.2.2.2.2.2.2.2.1 u.2.2.2.2.2.2.2.2.2.2.2.2.2.1 nd) ∧ (LpR u.2.1 lp9 rL) ∧ (OKP G h0 a (upd (upd (upd (upd (upd (upd (upd (upd (upd (upd F 2 (nI sz)) 5 (nI u.2.2.2.1)) 6 (nI u.2.2.2.2.2.2.2.2.2.2.2.2.1)) 7 (nI u.2.2.2.2.2.2.2.2.1)) 8 (nI u.2.2.2.2.2.2.2.2.2.1)) 12 (nI u.2.2.2.2.2.2.2.1)) 13 u.2.2.2.2.1) 14 u.2.2.2.2.2.1) 15 u.2.2.2.2.2.2.1) 16 u.2.2.2.2.2.2.2.2.2.2.2.2.2.2.1) (updR (updR (updR R 2 (.ref pq)) 3 (.ref mq)) 4 (va_rf lp9)) Z u.2.2.1 J u.2.1 u.1)) (fun u => u.1) (fun (u : va_W × (PK × (Nat → Nat → Int32) × Nat × Int32 × Int32 × Int32 × Nat × Nat × Nat × (Nat → AS) × (Nat → Nat) × Nat × Nat × Int32 × RX × (Nat → Prop) × List Nat × List Nat)) => (rE (g 2 q) - rS (g 2 q))) (fun (u : va_W × (PK × (Nat → Nat → Int32) × Nat × Int32 × Int32 × Int32 × Nat × Nat × Nat × (Nat → AS) × (Nat → Nat) × Nat × Nat × Int32 × RX × (Nat → Prop) × List Nat × List Nat)) => (6 * (rE (g 2 q) - rS (g 2 q))))) (pXX G A (fun (u : va_W × (Nat → Int32) × (Nat → Value) × (Nat → Nat → Int32)) => ThQ G h0 a (upd (upd (upd (upd (upd (upd (upd (upd F 2 (nI sz)) 5 (nI cs)) 6 (nI rg)) 7 (nI hd)) 8 (nI dp)) 12 (nI vr)) 13 as9) 16 ls9) (updR (updR (updR R 2 (.ref pq)) 3 (.ref mq)) 4 (va_rf lp9)) Z B J u) (fun u => u.1)) ([.ref (a 4), .ref q, .int (nI tf)] : List Value).toArray s ({ frames := (5 * n + 50), cells := ((rE (g 2 q) - rS (g 2 q)) + 1), slots := (6 * (rE (g 2 q) - rS (g 2 q)) + 6), locals := (200 * n + 1200) } : Room).cells ({ frames := (5 * n + 50), cells := ((rE (g 2 q) - rS (g 2 q)) + 1), slots := (6 * (rE (g 2 q) - rS (g 2 q)) + 6), locals := (200 * n + 1200) } : Room).slots A) (F0 m 32 ls []) := by
    intro B2 cs2 A2 H locs ls w hbb2 hng2 hsw2 hbr2 hvs2 hcs2 hst2 hlp2 hen2 hrq2 hP hD hS hO hl
    refine lv_aload_n hx hb dX0_statement_32 rfl (lv_at hl 1 rfl) ?_
    refine p_get (v := .int kd) (C := RX7) (Tc := TX7) (N := 11) (ci := 13) hx hb hq pin_wsX70 hown hE hP hO (by rw [hqT]; decide) (rep_1 hqT) rfl 0 (by decide) (hq _ pw_166) (fun _ h9 => h9) (congrArg (fun z => some (Value.int z)) hkd) dX0_statement_33 ?_
    by_cases h1 : kd = 21
    · subst h1
      refine lv_tableIn (tgt := 104) (off := 68) hx hb dX0_statement_36 (by decide) (by decide) (by decide) (by decide) ?_
      refine lv_aload_n hx hb dX0_statement_104 rfl (lv_at hl 2 rfl) ?_
      refine lv_aload_n hx hb dX0_statement_105 rfl (lv_at hl 1 rfl) ?_
      have htl2 : tlE g q = rE (g 2 q) - rS (g 2 q) := rfl
      have hO : OKP G h0 a (upd (upd (upd (upd (upd (upd (upd (upd (upd (upd (upd (upd (upd (upd (upd (upd (upd F 2 (nI sz)) 5 (nI cs)) 6 (nI rg)) 7 (nI hd)) 8 (nI dp)) 12 (nI vr)) 13 as9) 16 ls9) 5 (nI cs2)) 2 (nI sz)) 5 (nI cs2)) 6 (nI rg)) 7 (nI hd)) 8 (nI dp)) 12 (nI vr)) 13 as9) 16 ls9) (updR (updR (updR (updR (updR (updR R 2 (.ref pq)) 3 (.ref mq)) 4 (va_rf lp9)) 2 (.ref pq)) 3 (.ref mq)) 4 (va_rf lp9)) Z B2 J K w := hO.to rfl
      obtain ⟨_, qr6, hqr7⟩ := hO.2.1 24 _ (sg_24 G h0 a _ _ _ _ _)
      refine pn_V0 (G := G) (As := [.ref q]) (rest := []) hx hb hml hown hq hE hX pX0_al hP hD hS hA hl.1 (Y_block l G h0 a (upd (upd (upd (upd (upd (upd (upd (upd (upd F 2 (nI sz)) 5 (nI cs)) 6 (nI rg)) 7 (nI hd)) 8 (nI dp)) 12 (nI vr)) 13 as9) 16 ls9) 5 (nI cs2)) (updR (updR (updR R 2 (.ref pq)) 3 (.ref mq)) 4 (va_rf lp9)) Z B2 J K w pq dr ml nd nm cp it s9 q mq cs2 vr sz n hd dp rg ls9 lp9 g rk pb A2 Q9 pd sl m9 lw c0 rt gr as9 hdL slL xb xc rL (by omega) (BdE.wp BdE.rfl hwp) (BdE.pt BdE.rfl hwp hps) (BdE.rko BdE.rfl hrk) (by omega) (by omega) hng2 hmq hqT hqL hrt hrv (by omega) (by omega) (by omega) (LpO.be BdE.rfl hlo) (EkA.be BdE.rfl (hbr2 7 (by decide)) (hbr2 11 (by decide)) hek) (OwC.be BdE.rfl hmq hdr0 hcO) (NaB.be BdE.rfl BeF.rfl hwp hps.2.1 hdr0 (hbr2 11 (by decide)) hna) hen2 hao hst2.1 (by omega) (by omega) (by omega) (SkA.be BdE.rfl (hbr2 11 (by decide)) hsk) hlp2 hrq2 (fun z9 => hrL (hst2.2.2.2.2.2.1 z9)) hlr hkd ist hO hl0) (gV pw_307 pw_308 pw_309 pw_63 pw_358) hV_X0_block qr6 0 hqr7 rfl rfl rfl (Nat.le_of_ble_eq_true rfl) dX0_statement_106 ⟨(by show 0 + ((rE (g 2 q) - rS (g 2 q) - 2) + 1) ≤ ((rE (g 2 q) - rS (g 2 q)) + 1); omega), (by show 0 + (6 * (rE (g 2 q) - rS (g 2 q) - 2) + 6) ≤ (6 * (rE (g 2 q) - rS (g 2 q)) + 6); omega)⟩ ⟨(by show (5 * n + 46) + 1 ≤ (5 * n + 50); omega), (by show 8 + (5 + 11) + (200 * n + 1120) ≤ (200 * n + 1200); omega)⟩ (fun v5 u3 H locs hw4 hP hD hS => ?_) (fun ux ce9 q9 H9 locs9 hux hP9 hD9 hS9 hce hcv hcl => pb_out ux (ThQ.up (Thx.same (Thx.same (Thx.same (Thx.same (Thx.same (Thx.same (Thx.same (Thx.same (Thx.f (Bth.thx hbb2) (by omega)) rfl) rfl) rfl) rfl) rfl) rfl) rfl) rfl) (show RhX (updR (updR (updR R 2 (.ref pq)) 3 (.ref mq)) 4 (va_rf lp9)) (updR (updR (updR (updR (updR (updR R 2 (.ref pq)) 3 (.ref mq)) 4 (va_rf lp9)) 2 (.ref pq)) 3 (.ref mq)) 4 (va_rf lp9)) from fun k9 hk9 => by unfold updR; simp only [show ¬ k9 = 1 by omega, show ¬ k9 = 2 by omega, show ¬ k9 = 3 by omega, show ¬ k9 = 4 by omega, if_false]) hux) hnt hlocks hce hcv hcl hP9 hD9 hS9 (by show 0 + ((rE (g 2 q) - rS (g 2 q) - 2) + 1) ≤ ((rE (g 2 q) - rS (g 2 q)) + 1); omega) (by show 0 + (6 * (rE (g 2 q) - rS (g 2 q) - 2) + 6) ≤ (6 * (rE (g 2 q) - rS (g 2 q)) + 6); omega))
      obtain ⟨w, K8, B9, cs10, as11, wt12, wf13, dp14, Ag15, rg16, gr17, ls18, Q19, pd20, xb21, xc22⟩ := u3
      obtain ⟨hw4, h23, h24, h25, h26, h27, h28, h29, h30, h31, h32, h33, h34, h35, h36, h37, h38, h39, hO⟩ := hw4
      have h23 : SmW B2 B9 cs2 := h23
      have h24 : BdE K K8 := h24
      have h25 : BeF K K8 := h25
      have h26 : BeL K K8 lp9 := h26
      have h27 : Bth B2 B9 := h27
      have h28 : BtR B2 B9 := h28
      have h29 : cs2 ≤ cs10 ∧ cs10 + 4 ≤ cs2 + 2 * tlE g q := h29
      have h30 : dp ≤ dp14 ∧ dp14 ≤ 71 := h30
      have h31 : AsO as11 := h31
      have h32 : VrS B2 B9 vr := h32
      have h33 : gr ≤ gr17 ∧ rg16 ≤ 625 ∧ rg16 ≤ gr17 ∧ (rg16 = 625 ∨ rg16 = gr17) := h33
      have h34 : EnV (B9 26) (B9 27) nd vr hd c0 sl := h34
      have h35 : StW pb.1 pb.2.1 pb.2.2.1 pb.2.2.2 A2 Ag15 Q9 Q19 pd pd20 m9 dp14 lw cs2 cs10 as9 as11 hd hd sl sl gr gr17 (B9 16) (B9 17) (B9 18) (B9 19) [] := h35
      have h36 : LpS K8 (B9 16) (B9 17) Ag15 pd20 lp9 lw cs10 hd sl hdL slL xb21 xc22 := h36
      have h37 : PdS pd pd20 xb xb21 xc xc22 [] cs2 cs10 := h37
      have h38 : RgQx B9 Q19 gr17 nd := h38
      have h39 : LpR K8 lp9 rL := h39
      obtain rfl : v5 = none := hw4
      have hf40 : K8.1 pq = 7 := (BdE.T h24 hp1 (by decide))
      have hf41 : K8.2.2.1 18 pq = some (a 1) := (BdE.C h24 (by rw [hp1]; decide) 18).trans hp2
      have hf42 : K8.2.2.1 14 pq = some dr := (BdE.C h24 (by rw [hp1]; decide) 14).trans hp3
      have hf43 : K8.1 dr = 8 := (BdE.T h24 hp4 (by decide))
      have hf44 : K8.2.2.1 15 pq = some ml := (BdE.C h24 (by rw [hp1]; decide) 15).trans hp5
      have hf45 : K8.1 ml = 5 := (BdE.T h24 hp6 (by decide))
      have hf46 : K8.2.1 24 pq = (nI nd) := (BdE.I h24 (by rw [hp1]; decide) (by decide) (by decide)).trans hp8
      have hf47 : K8.1 q = 1 := (BdE.T h24 hqT (by decide))
      have hf48 : K8.1 mq = 3 := (BdE.T h24 hmq (by decide))
      have hf49 : K8.2.1 10 mq = (nI rt) := (BdE.I h24 (by rw [hmq]; decide) (by decide) (by decide)).trans hrt
      have hf50 : K8.2.1 0 q = 21 := (BdE.I h24 (by rw [hqT]; decide) (by decide) (by decide)).trans hkd
      have hO : OKP G h0 a (upd (upd (upd (upd (upd (upd (upd (upd (upd (upd F 2 (nI sz)) 5 (nI cs10)) 6 (nI rg16)) 7 (nI hd)) 8 (nI dp14)) 12 (nI vr)) 13 as11) 14 wt12) 15 wf13) 16 ls18) (updR (updR (updR R 2 (.ref pq)) 3 (.ref mq)) 4 (va_rf lp9)) Z B9 J K8 w := hO.to rfl
      refine W.widen (k := (rE (g 2 q) - rS (g 2 q) - 2)) (n := (6 * (rE (g 2 q) - rS (g 2 q) - 2))) (by show 0 + (rE (g 2 q) - rS (g 2 q) - 2) ≤ (rE (g 2 q) - rS (g 2 q) - 2); omega) (by show 0 + (6 * (rE (g 2 q) - rS (g 2 q) - 2)) ≤ (6 * (rE (g 2 q) - rS (g 2 q) - 2)); omega) ?_
      refine W.eq (g2 := F0 m 109 ls []) rfl ?_
      have hbe51 := BdE.trans BdE.rfl h24
      have hbb52 : Bth B B9 := Bth.trans (show Thx (upd (upd (upd (upd (upd (upd (upd (upd F 2 (nI sz)) 5 (nI cs)) 6 (nI rg)) 7 (nI hd)) 8 (nI dp)) 12 (nI vr)) 13 as9) 16 ls9) (upd (upd (upd (upd (upd (upd (upd (upd (upd F 2 (nI sz)) 5 (nI cs)) 6 (nI rg)) 7 (nI hd)) 8 (nI dp)) 12 (nI vr)) 13 as9) 16 ls9) 5 (nI cs2)) B B2 from (Thx.f (Bth.thx hbb2) (by omega))).2 h27
      have hng53 : Nng (B9 18) := h27.2 hng2
      have hsw54 : ∀ x9 : Nat, x9 < cs → (B9 16) x9 = B 16 x9 := fun x9 hx9 => ((h23 x9 (by omega)).1).trans ((fun x9 hx9 => (hsw2 x9 hx9).1) x9 hx9)
      have hsw55 : ∀ x9 : Nat, x9 < cs → (B9 17) x9 = B 17 x9 := fun x9 hx9 => ((h23 x9 (by omega)).2.1).trans ((fun x9 hx9 => (hsw2 x9 hx9).2.1) x9 hx9)
      have hsw56 : ∀ x9 : Nat, x9 < cs → (B9 18) x9 = B 18 x9 := fun x9 hx9 => ((h23 x9 (by omega)).2.2.1).trans ((fun x9 hx9 => (hsw2 x9 hx9).2.2.1) x9 hx9)
      have hsw57 : ∀ x9 : Nat, x9 < cs → (B9 19) x9 = B 19 x9 := fun x9 hx9 => ((h23 x9 (by omega)).2.2.2).trans ((fun x9 hx9 => (hsw2 x9 hx9).2.2.2) x9 hx9)
      have hbf58 := BeF.trans BeF.rfl h25 BdE.rfl
      have hbl60 : BeL K K8 lp9 := BeL.trans BeL.rfl h26 BdE.rfl
      have hbr59 : BtR B B9 := BtR.trans hbr2 h28
      have hvs61 : VrS B B9 vr := VrS.trans hvs2 h32 (by omega)
      have hst62 : StW pb.1 pb.2.1 pb.2.2.1 pb.2.2.2 Ag Ag15 Q9 Q19 pd pd20 m9 dp14 lw cs cs10 as9 as11 hd hd sl sl gr gr17 (B9 16) (B9 17) (B9 18) (B9 19) ([] : List Nat) := StW.seq hst2 (by omega) (fun x9 hx9 => ⟨(h23 x9 hx9).1, (h23 x9 hx9).2.1⟩) h35
      have hsn63 := hst62.1.2.2.2.1
      have hpd64 : PdS pd pd20 xb xb21 xc xc22 ([] : List Nat) cs cs10 := PdS.call (PdS.rfl (cs1 := cs2)) h37 (by omega) (by omega)
      refine lv_goto (tgt := 241) hx hb dX0_statement_109 (by decide) ?_
      refine W_size (fun hz1 hz2 => ?_)
      refine vx_ret ?_
      have hz65 : SmW B B9 cs := (fun x9 hx9 => ⟨hsw54 x9 hx9, hsw55 x9 hx9, hsw56 x9 hx9, hsw57 x9 hx9⟩)
      have hz66 : BdE K K8 := hbe51
      have hz67 : BeF K K8 := hbf58
      have hz68 : BeL K K8 lp9 := hbl60
      have hz69 : Bth B B9 := (show Thx (upd (upd (upd (upd (upd (upd (upd (upd F 2 (nI sz)) 5 (nI cs)) 6 (nI rg)) 7 (nI hd)) 8 (nI dp)) 12 (nI vr)) 13 as9) 16 ls9) (upd (upd (upd (upd (upd (upd (upd (upd (upd (upd (upd (upd (upd (upd (upd F 2 (nI sz)) 5 (nI cs)) 6 (nI rg)) 7 (nI hd)) 8 (nI dp)) 12 (nI vr)) 13 as9) 16 ls9) 5 (nI cs10)) 6 (nI rg16)) 8 (nI dp14)) 13 as11) 14 wt12) 15 wf13) 16 ls18) B B9 from (Thx.f (Thx.f (Thx.f (Thx.f (Thx.f (Thx.f (Thx.f (Bth.thx hbb52) (by omega)) (by omega)) (by omega)) (by omega)) (by omega)) (by omega)) (by omega))).2
      have hz70 : BtR B B9 := hbr59
      have hz71 : cs ≤ cs10 ∧ cs10 + 0 ≤ cs + 2 * tlE g q := (by omega)
      have hz72 : dp ≤ dp14 ∧ dp14 ≤ 71 := (by omega)
      have hz73 : vr ≤ vr ∧ vr ≤ 30 ∧ hd + vr = hd + vr := (by omega)
      have hz74 : AsO as11 := h31
      have hz75 : VrS B B9 vr := hvs61
      have hz76 : cs < cs10 ∨ (hd = hd ∧ sl = sl) := (Or.inr ⟨rfl, rfl⟩)
      have hz77 : ¬ K.2.1 0 q = 22 → hd = hd := (fun _ => rfl)
      have hz78 : gr ≤ gr17 ∧ rg16 ≤ 625 ∧ rg16 ≤ gr17 ∧ (rg16 = 625 ∨ rg16 = gr17) := (by omega)
      have hz79 : EnV (B9 26) (B9 27) nd vr hd c0 sl := h34
      have hz80 : StW pb.1 pb.2.1 pb.2.2.1 pb.2.2.2 Ag Ag15 Q9 Q19 pd pd20 m9 dp14 lw cs cs10 as9 as11 hd hd sl sl gr gr17 (B9 16) (B9 17) (B9 18) (B9 19) [] := hst62
      have hz81 : LpS K8 (B9 16) (B9 17) Ag15 pd20 lp9 lw cs10 hd sl hdL slL xb21 xc22 := h36
      have hz82 : PdS pd pd20 xb xb21 xc xc22 [] cs cs10 := hpd64
      have hz83 : RgQx B9 Q19 gr17 nd := h38
      have hz84 : LpR K8 lp9 rL := h39
      have hO : OKP G h0 a (upd (upd (upd (upd (upd (upd (upd (upd (upd (upd F 2 (nI sz)) 5 (nI cs10)) 6 (nI rg16)) 7 (nI hd)) 8 (nI dp14)) 12 (nI vr)) 13 as11) 14 wt12) 15 wf13) 16 ls18) (updR (updR (updR R 2 (.ref pq)) 3 (.ref mq)) 4 (va_rf lp9)) Z B9 J K8 w := hO.to rfl
      refine W.widen (k := ((rE (g 2 q) - rS (g 2 q)) + 1)) (n := (6 * (rE (g 2 q) - rS (g 2 q)) + 6)) (by omega) (by omega) ?_
      have hzz1 : H.size ≤ s.heap.size + ((rE (g 2 q) - rS (g 2 q))) := (by have z : (rE (g 2 q) - rS (g 2 q) - 2) ≤ (rE (g 2 q) - rS (g 2 q)) := (by omega); omega)
      have hzz2 : hSl H ≤ hSl s.heap + ((6 * (rE (g 2 q) - rS (g 2 q)))) := (by have z : (6 * (rE (g 2 q) - rS (g 2 q) - 2)) ≤ (6 * (rE (g 2 q) - rS (g 2 q))) := (by omega); omega)
      exact W.vret hx hb hr (fun t99 ht99 hW99 => ⟨⟨_, (w, (K8, B9, cs10, as11, wt12, wf13, vr, hd, dp14, Ag15, sl, rg16, gr17, ls18, Q19, pd20, xb21, xc22)), rfl, ⟨rfl, hz65, hz66, hz67, hz68, hz69, hz70, hz71, hz72, hz73, hz74, hz75, hz76, hz77, hz78, hz79, hz80, hz81, hz82, hz83, hz84, hO⟩, by rw [ht99]; exact hP, hD, by rw [ht99]; exact hzz1, by rw [ht99]; exact hzz2⟩, hS.F ht99⟩) hS.2.2 dX0_statement_241
    by_cases h85 : kd = 22
    · subst h85
      refine lv_tableIn (tgt := 160) (off := 124) hx hb dX0_statement_36 (by decide) (by decide) (by decide) (by decide) ?_
      have hsk2 := hskq.1 hkd
      have hsk3 := hsk2.1
      refine lv_aload_n hx hb dX0_statement_160 rfl (lv_at hl 2 rfl) ?_
      refine lv_aload_n hx hb dX0_statement_161 rfl (lv_at hl 1 rfl) ?_
      have htl86 : tlE g q = rE (g 2 q) - rS (g 2 q) := rfl
      have hO : OKP G h0 a (upd (upd (upd (upd (upd (upd (upd (upd (upd (upd (upd (upd (upd (upd (upd (upd (upd F 2 (nI sz)) 5 (nI cs)) 6 (nI rg)) 7 (nI hd)) 8 (nI dp)) 12 (nI vr)) 13 as9) 16 ls9) 5 (nI cs2)) 2 (nI sz)) 5 (nI cs2)) 6 (nI rg)) 7 (nI hd)) 8 (nI dp)) 12 (nI vr)) 13 as9) 16 ls9) (updR (updR (updR (updR (updR (updR R 2 (.ref pq)) 3 (.ref mq)) 4 (va_rf lp9)) 2 (.ref pq)) 3 (.ref mq)) 4 (va_rf lp9)) Z B2 J K w := hO.to rfl
      obtain ⟨_, qr90, hqr91⟩ := hO.2.1 24 _ (sg_24 G h0 a _ _ _ _ _)
      refine pn_V0 (G := G) (As := [.ref q]) (rest := []) hx hb hml hown hq hE hX pX0_al hP hD hS hA hl.1 (Y_local l G h0 a (upd (upd (upd (upd (upd (upd (upd (upd (upd F 2 (nI sz)) 5 (nI cs)) 6 (nI rg)) 7 (nI hd)) 8 (nI dp)) 12 (nI vr)) 13 as9) 16 ls9) 5 (nI cs2)) (updR (updR (updR R 2 (.ref pq)) 3 (.ref mq)) 4 (va_rf lp9)) Z B2 J K w pq dr ml nd nm cp it s9 q mq cs2 vr sz n hd dp rg ls9 lp9 g rk pb A2 Q9 pd sl m9 lw c0 rt gr as9 (by omega) (BdE.wp BdE.rfl hwp) (BdE.pt BdE.rfl hwp hps) (BdE.rko BdE.rfl hrk) (by omega) (by omega) hng2 hmq hqT hqL hrt hrv (by omega) (by omega) (by omega) (LpO.be BdE.rfl hlo) (EkA.be BdE.rfl (hbr2 7 (by decide)) (hbr2 11 (by decide)) hek) (OwC.be BdE.rfl hmq hdr0 hcO) (NaB.be BdE.rfl BeF.rfl hwp hps.2.1 hdr0 (hbr2 11 (by decide)) hna) hen2 hao hst2.1 (by omega) (fun x9 hx9 => by have z9 := (hwp.1 q hqT hqL.1).2.1 0 x9 (by decide) hx9; have z8 := hsk2.2 x9 hx9; exact ⟨z9.1, ⟨z9.2.1, by have z7 := z9.2.2.1; omega⟩, z8.1.1, z8.1.2, z8.2⟩) hsk3 hO hl0) (gV pw_342 pw_343 pw_344 pw_63 pw_288) hV_X0_local qr90 0 hqr91 rfl rfl rfl (Nat.le_of_ble_eq_true rfl) dX0_statement_162 ⟨(by show 0 + 1 ≤ ((rE (g 2 q) - rS (g 2 q)) + 1); omega), (by show 0 + 6 ≤ (6 * (rE (g 2 q) - rS (g 2 q)) + 6); omega)⟩ ⟨(by show (5 * n + 33) + 1 ≤ (5 * n + 50); omega), (by show 8 + (5 + 11) + (200 * n + 560) ≤ (200 * n + 1200); omega)⟩ (fun v89 u87 H locs hw88 hP hD hS => ?_) (fun ux ce9 q9 H9 locs9 hux hP9 hD9 hS9 hce hcv hcl => pb_out ux (ThQ.up (Thx.same (Thx.same (Thx.same (Thx.same (Thx.same (Thx.same (Thx.same (Thx.same (Thx.f (Bth.thx hbb2) (by omega)) rfl) rfl) rfl) rfl) rfl) rfl) rfl) rfl) (show RhX (updR (updR (updR R 2 (.ref pq)) 3 (.ref mq)) 4 (va_rf lp9)) (updR (updR (updR (updR (updR (updR R 2 (.ref pq)) 3 (.ref mq)) 4 (va_rf lp9)) 2 (.ref pq)) 3 (.ref mq)) 4 (va_rf lp9)) from fun k9 hk9 => by unfold updR; simp only [show ¬ k9 = 1 by omega, show ¬ k9 = 2 by omega, show ¬ k9 = 3 by omega, show ¬ k9 = 4 by omega, if_false]) hux) hnt hlocks hce hcv hcl hP9 hD9 hS9 (by show 0 + 1 ≤ ((rE (g 2 q) - rS (g 2 q)) + 1); omega) (by show 0 + 6 ≤ (6 * (rE (g 2 q) - rS (g 2 q)) + 6); omega))
      obtain ⟨w, K92, B93, cs94, as95, wt96, wf97, vr98, hd99, dp100, Ag101, sl102⟩ := u87
      obtain ⟨hw88, h103, h104, h105, h106, h107, h108, h109, h110, h111, h112, h113, h114, h115, h116, hO⟩ := hw88
      have h103 : SmW B2 B93 cs2 := h103
      have h104 : BdE K K92 := h104
      have h105 : BeF K K92 := h105
      have h106 : BeL K K92 none := h106
      have h107 : Bth B2 B93 := h107
      have h108 : BsR B2 B93 := h108
      have h109 : cs2 ≤ cs94 ∧ cs94 + 1 ≤ cs2 + 2 * tlE g q := h109
      have h110 : dp ≤ dp100 ∧ dp100 ≤ 71 := h110
      have h111 : vr ≤ vr98 ∧ vr98 ≤ 30 ∧ hd99 + vr = hd + vr98 := h111
      have h112 : AsO as95 := h112
      have h113 : VrS B2 B93 vr := h113
      have h114 : cs2 < cs94 := h114
      have h115 : EnV (B93 26) (B93 27) nd vr98 hd99 c0 sl102 := h115
      have h116 : StW pb.1 pb.2.1 pb.2.2.1 pb.2.2.2 A2 Ag101 Q9 Q9 pd pd m9 dp100 lw cs2 cs94 as9 as95 hd hd99 sl sl102 gr gr (B93 16) (B93 17) (B93 18) (B93 19) [] := h116
      obtain rfl : v89 = none := hw88
      have hf117 : K92.1 pq = 7 := (BdE.T h104 hp1 (by decide))
      have hf118 : K92.2.2.1 18 pq = some (a 1) := (BdE.C h104 (by rw [hp1]; decide) 18).trans hp2
      have hf119 : K92.2.2.1 14 pq = some dr := (BdE.C h104 (by rw [hp1]; decide) 14).trans hp3
      have hf120 : K92.1 dr = 8 := (BdE.T h104 hp4 (by decide))
      have hf121 : K92.2.2.1 15 pq = some ml := (BdE.C h104 (by rw [hp1]; decide) 15).trans hp5
      have hf122 : K92.1 ml = 5 := (BdE.T h104 hp6 (by decide))
      have hf123 : K92.2.1 24 pq = (nI nd) := (BdE.I h104 (by rw [hp1]; decide) (by decide) (by decide)).trans hp8
      have hf124 : K92.1 q = 1 := (BdE.T h104 hqT (by decide))
      have hf125 : K92.1 mq = 3 := (BdE.T h104 hmq (by decide))
      have hf126 : K92.2.1 10 mq = (nI rt) := (BdE.I h104 (by rw [hmq]; decide) (by decide) (by decide)).trans hrt
      have hf127 : K92.2.1 0 q = 22 := (BdE.I h104 (by rw [hqT]; decide) (by decide) (by decide)).trans hkd
      have hO : OKP G h0 a (upd (upd (upd (upd (upd (upd (upd (upd (upd (upd F 2 (nI sz)) 5 (nI cs94)) 6 (nI rg)) 7 (nI hd99)) 8 (nI dp100)) 12 (nI vr98)) 13 as95) 14 wt96) 15 wf97) 16 ls9) (updR (updR (updR R 2 (.ref pq)) 3 (.ref mq)) 4 (va_rf lp9)) Z B93 J K92 w := hO.to rfl
      refine W.widen (k := 0) (n := 0) (by show 0 + 0 ≤ 0; omega) (by show 0 + 0 ≤ 0; omega) ?_
      refine W.eq (g2 := F0 m 165 ls []) rfl ?_
      have hbe128 := BdE.trans BdE.rfl h104
      have hbb129 : Bth B B93 := Bth.trans (show Thx (upd (upd (upd (upd (upd (upd (upd (upd F 2 (nI sz)) 5 (nI cs)) 6 (nI rg)) 7 (nI hd)) 8 (nI dp)) 12 (nI vr)) 13 as9) 16 ls9) (upd (upd (upd (upd (upd (upd (upd (upd (upd F 2 (nI sz)) 5 (nI cs)) 6 (nI rg)) 7 (nI hd)) 8 (nI dp)) 12 (nI vr)) 13 as9) 16 ls9) 5 (nI cs2)) B B2 from (Thx.f (Bth.thx hbb2) (by omega))).2 h107
      have hng130 : Nng (B93 18) := h107.2 hng2
      have hsw131 : ∀ x9 : Nat, x9 < cs → (B93 16) x9 = B 16 x9 := fun x9 hx9 => ((h103 x9 (by omega)).1).trans ((fun x9 hx9 => (hsw2 x9 hx9).1) x9 hx9)
      have hsw132 : ∀ x9 : Nat, x9 < cs → (B93 17) x9 = B 17 x9 := fun x9 hx9 => ((h103 x9 (by omega)).2.1).trans ((fun x9 hx9 => (hsw2 x9 hx9).2.1) x9 hx9)
      have hsw133 : ∀ x9 : Nat, x9 < cs → (B93 18) x9 = B 18 x9 := fun x9 hx9 => ((h103 x9 (by omega)).2.2.1).trans ((fun x9 hx9 => (hsw2 x9 hx9).2.2.1) x9 hx9)
      have hsw134 : ∀ x9 : Nat, x9 < cs → (B93 19) x9 = B 19 x9 := fun x9 hx9 => ((h103 x9 (by omega)).2.2.2).trans ((fun x9 hx9 => (hsw2 x9 hx9).2.2.2) x9 hx9)
      have hbf135 := BeF.trans BeF.rfl h105 BdE.rfl
      have hbl137 : BeL K K92 lp9 := BeL.trans BeL.rfl (BeL.any h106) BdE.rfl
      have hbr136 : BtR B B93 := BtR.trans hbr2 (BsR.bt h108)
      have hvs138 : VrS B B93 vr := VrS.trans hvs2 h113 (by omega)
      have hst139 : StW pb.1 pb.2.1 pb.2.2.1 pb.2.2.2 Ag Ag101 Q9 Q9 pd pd m9 dp100 lw cs cs94 as9 as95 hd hd99 sl sl102 gr gr (B93 16) (B93 17) (B93 18) (B93 19) ([] : List Nat) := StW.seq hst2 (by omega) (fun x9 hx9 => ⟨(h103 x9 hx9).1, (h103 x9 hx9).2.1⟩) h116
      have hsn140 := hst139.1.2.2.2.1
      have hrq141 : RgQx B93 Q9 gr nd := RgQx.ber hrq2 (BsR.rg h108 20 (by decide) (by decide)) (BsR.rg h108 21 (by decide) (by decide)) (BsR.rg h108 22 (by decide) (by decide)) (BsR.rg h108 23 (by decide) (by decide)) (BsR.rg h108 24 (by decide) (by decide))
      have hlp142 : LpS K92 (B93 16) (B93 17) Ag101 pd lp9 lw cs94 hd99 sl102 hdL slL xb xc := LpS.same hlp2 (fun lq9 e9 f9 _ _ => h106 lq9 (LpO.be BdE.rfl hlo lq9 e9) (fun z => by cases z) f9) (fun z9 hz9 => ⟨(h103 z9 hz9).1, (h103 z9 hz9).2.1, h116.2.2.1 z9 (by omega)⟩) (fun _ h9 => h9) (fun z9 h9 => Nat.lt_of_lt_of_le (hlp2.1 z9 h9) (by omega)) (by omega) h116.2.2.2.2.2.2.1
      have hpd143 : PdS pd pd xb xb xc xc ([] : List Nat) cs cs94 := PdS.wk (PdS.rfl (cs1 := cs2)) (by omega)
      have hlr144 : LpR K92 lp9 rL := LpR.same hlr (fun lq9 e9 f9 _ _ => h106 lq9 (LpO.be BdE.rfl hlo lq9 e9) (fun z => by cases z) f9)
      refine lv_goto (tgt := 241) hx hb dX0_statement_165 (by decide) ?_
      refine W_size (fun hz1 hz2 => ?_)
      refine vx_ret ?_
      have hz145 : SmW B B93 cs := (fun x9 hx9 => ⟨hsw131 x9 hx9, hsw132 x9 hx9, hsw133 x9 hx9, hsw134 x9 hx9⟩)
      have hz146 : BdE K K92 := hbe128
      have hz147 : BeF K K92 := hbf135
      have hz148 : BeL K K92 lp9 := hbl137
      have hz149 : Bth B B93 := (show Thx (upd (upd (upd (upd (upd (upd (upd (upd F 2 (nI sz)) 5 (nI cs)) 6 (nI rg)) 7 (nI hd)) 8 (nI dp)) 12 (nI vr)) 13 as9) 16 ls9) (upd (upd (upd (upd (upd (upd (upd (upd (upd (upd (upd (upd (upd (upd (upd F 2 (nI sz)) 5 (nI cs)) 6 (nI rg)) 7 (nI hd)) 8 (nI dp)) 12 (nI vr)) 13 as9) 16 ls9) 5 (nI cs94)) 7 (nI hd99)) 8 (nI dp100)) 12 (nI vr98)) 13 as95) 14 wt96) 15 wf97) B B93 from (Thx.f (Thx.f (Thx.f (Thx.f (Thx.f (Thx.f (Thx.f (Bth.thx hbb129) (by omega)) (by omega)) (by omega)) (by omega)) (by omega)) (by omega)) (by omega))).2
      have hz150 : BtR B B93 := hbr136
      have hz151 : cs ≤ cs94 ∧ cs94 + 0 ≤ cs + 2 * tlE g q := (by omega)
      have hz152 : dp ≤ dp100 ∧ dp100 ≤ 71 := (by omega)
      have hz153 : vr ≤ vr98 ∧ vr98 ≤ 30 ∧ hd99 + vr = hd + vr98 := (by omega)
      have hz154 : AsO as95 := h112
      have hz155 : VrS B B93 vr := hvs138
      have hz156 : cs < cs94 ∨ (hd99 = hd ∧ sl102 = sl) := (Or.inl (by omega))
      have hz157 : ¬ K.2.1 0 q = 22 → hd99 = hd := (fun z9 => absurd hkd z9)
      have hz158 : gr ≤ gr ∧ rg ≤ 625 ∧ rg ≤ gr ∧ (rg = 625 ∨ rg = gr) := (by omega)
      have hz159 : EnV (B93 26) (B93 27) nd vr98 hd99 c0 sl102 := h115
      have hz160 : StW pb.1 pb.2.1 pb.2.2.1 pb.2.2.2 Ag Ag101 Q9 Q9 pd pd m9 dp100 lw cs cs94 as9 as95 hd hd99 sl sl102 gr gr (B93 16) (B93 17) (B93 18) (B93 19) [] := hst139
      have hz161 : LpS K92 (B93 16) (B93 17) Ag101 pd lp9 lw cs94 hd99 sl102 hdL slL xb xc := hlp142
      have hz162 : PdS pd pd xb xb xc xc [] cs cs94 := hpd143
      have hz163 : RgQx B93 Q9 gr nd := hrq141
      have hz164 : LpR K92 lp9 rL := hlr144
      have hO : OKP G h0 a (upd (upd (upd (upd (upd (upd (upd (upd (upd (upd F 2 (nI sz)) 5 (nI cs94)) 6 (nI rg)) 7 (nI hd99)) 8 (nI dp100)) 12 (nI vr98)) 13 as95) 14 wt96) 15 wf97) 16 ls9) (updR (updR (updR R 2 (.ref pq)) 3 (.ref mq)) 4 (va_rf lp9)) Z B93 J K92 w := hO.to rfl
      refine W.widen (k := ((rE (g 2 q) - rS (g 2 q)) + 1)) (n := (6 * (rE (g 2 q) - rS (g 2 q)) + 6)) (by omega) (by omega) ?_
      have hzz1 : H.size ≤ s.heap.size + ((rE (g 2 q) - rS (g 2 q))) := (by have z : 0 ≤ (rE (g 2 q) - rS (g 2 q)) := (by omega); omega)
      have hzz2 : hSl H ≤ hSl s.heap + ((6 * (rE (g 2 q) - rS (g 2 q)))) := (by have z : 0 ≤ (6 * (rE (g 2 q) - rS (g 2 q))) := (by omega); omega)
      exact W.vret hx hb hr (fun t99 ht99 hW99 => ⟨⟨_, (w, (K92, B93, cs94, as95, wt96, wf97, vr98, hd99, dp100, Ag101, sl102, rg, gr, ls9, Q9, pd, xb, xc)), rfl, ⟨rfl, hz145, hz146, hz147, hz148, hz149, hz150, hz151, hz152, hz153, hz154, hz155, hz156, hz157, hz158, hz159, hz160, hz161, hz162, hz163, hz164, hO⟩, by rw [ht99]; exact hP, hD, by rw [ht99]; exact hzz1, by rw [ht99]; exact hzz2⟩, hS.F ht99⟩) hS.2.2 dX0_statement_241
    by_cases h165 : kd = 23
    · subst h165
      refine lv_tableIn (tgt := 168) (off := 132) hx hb dX0_statement_36 (by decide) (by decide) (by decide) (by decide) ?_
      obtain ⟨q1, hc0, ht0, hw0⟩ := NdO.ch hnd (f := 0) (by decide) ((hnd.1.2.1 (by rw [hkd]; decide)).1)
      have hv0 : 1 ≤ g 0 q1 ∧ g 0 q1 + 1 ≤ n := ⟨hw0.1, (by have z := hw0.2; omega)⟩
      obtain ⟨q2, hc1, ht1, hw1⟩ := NdO.ch hnd (f := 1) (by decide) ((hnd.1.2.1 (by rw [hkd]; decide)).2)
      have hv1 : 1 ≤ g 0 q2 ∧ g 0 q2 + 1 ≤ n := ⟨hw1.1, (by have z := hw1.2; omega)⟩
      obtain ⟨hes1, hes2, htl9, hnin⟩ := hskq.2.1 hkd q1 q2 hc0 hc1
      have hes3 := hes1.2
      have hes4 := hes2.2
      have hes5 := hes1.1.1
      have hes6 := hes1.1.2
      have hes7 := hes2.1.1
      refine lv_aload_n hx hb dX0_statement_168 rfl (lv_at hl 2 rfl) ?_
      refine lv_aload_n hx hb dX0_statement_169 rfl (lv_at hl 1 rfl) ?_
      refine p_get (v := .ref q1) (C := RX7) (Tc := TX7) (N := 11) (ci := 13) hx hb hq pin_wsX70 hown hE hP hO (by rw [hqT]; decide) (rep_1 hqT) rfl 6 (by decide) (hq _ pw_180) (fun _ h9 => h9) (congrArg (fun z => some (va_rf z)) hc0) dX0_statement_170 ?_
      refine lv_aload_n hx hb dX0_statement_173 rfl (lv_at hl 1 rfl) ?_
      refine p_get (v := .ref q2) (C := RX7) (Tc := TX7) (N := 11) (ci := 13) hx hb hq pin_wsX70 hown hE hP hO (by rw [hqT]; decide) (rep_1 hqT) rfl 7 (by decide) (hq _ pw_169) (fun _ h9 => h9) (congrArg (fun z => some (va_rf z)) hc1) dX0_statement_174 ?_
      have htl166 : tlE g q1 = rE (g 2 q1) - rS (g 2 q1) := rfl
      have hO : OKP G h0 a (upd (upd (upd (upd (upd (upd (upd (upd (upd (upd (upd (upd (upd (upd (upd (upd (upd F 2 (nI sz)) 5 (nI cs)) 6 (nI rg)) 7 (nI hd)) 8 (nI dp)) 12 (nI vr)) 13 as9) 16 ls9) 5 (nI cs2)) 2 (nI sz)) 5 (nI cs2)) 6 (nI rg)) 7 (nI hd)) 8 (nI dp)) 12 (nI vr)) 13 as9) 16 ls9) (updR (updR (updR (updR (updR (updR R 2 (.ref pq)) 3 (.ref mq)) 4 (va_rf lp9)) 2 (.ref pq)) 3 (.ref mq)) 4 (va_rf lp9)) Z B2 J K w := hO.to rfl
      obtain ⟨_, qr170, hqr171⟩ := hO.2.1 24 _ (sg_24 G h0 a _ _ _ _ _)
      refine pn_V0 (G := G) (As := [.ref q1, .ref q2]) (rest := []) hx hb hml hown hq hE hX pX0_al hP hD hS hA hl.1 (Y_assign l G h0 a (upd (upd (upd (upd (upd (upd (upd (upd (upd F 2 (nI sz)) 5 (nI cs)) 6 (nI rg)) 7 (nI hd)) 8 (nI dp)) 12 (nI vr)) 13 as9) 16 ls9) 5 (nI cs2)) (updR (updR (updR R 2 (.ref pq)) 3 (.ref mq)) 4 (va_rf lp9)) Z B2 J K w pq dr ml nd nm cp it s9 q1 mq cs2 vr sz n q2 hd dp rg ls9 lp9 g rk pb A2 Q9 pd sl m9 lw c0 rt gr as9 (by omega) (BdE.wp BdE.rfl hwp) (BdE.pt BdE.rfl hwp hps) (BdE.rko BdE.rfl hrk) (by omega) (by omega) hng2 hmq ht0 ⟨hv0.1, (by have z9 := hv0; omega)⟩ hrt hrv (by omega) (by omega) (by omega) (LpO.be BdE.rfl hlo) (EkA.be BdE.rfl (hbr2 7 (by decide)) (hbr2 11 (by decide)) hek) (OwC.be BdE.rfl hmq hdr0 hcO) (NaB.be BdE.rfl BeF.rfl hwp hps.2.1 hdr0 (hbr2 11 (by decide)) hna) hen2 hao hst2.1 (by omega) ht1 hv1 hes2.1 hes2.2 (by rw [BdE.I BdE.rfl (by rw [ht0]; decide) (by decide) (by decide)]; exact NdO.k23 hnd hkd hc0) hes1.1 hes1.2 hnin hO hl0) (gV pw_345 pw_346 pw_347 pw_63 pw_293) hV_X0_assign qr170 0 hqr171 rfl rfl rfl (Nat.le_of_ble_eq_true rfl) dX0_statement_177 ⟨(by show 0 + 1 ≤ ((rE (g 2 q) - rS (g 2 q)) + 1); omega), (by show 0 + 6 ≤ (6 * (rE (g 2 q) - rS (g 2 q)) + 6); omega)⟩ ⟨(by show (5 * n + 36) + 1 ≤ (5 * n + 50); omega), (by show 8 + (5 + 11) + (200 * n + 660) ≤ (200 * n + 1200); omega)⟩ (fun v169 u167 H locs hw168 hP hD hS => ?_) (fun ux ce9 q9 H9 locs9 hux hP9 hD9 hS9 hce hcv hcl => pb_out ux (ThQ.up (Thx.same (Thx.same (Thx.same (Thx.same (Thx.same (Thx.same (Thx.same (Thx.same (Thx.f (Bth.thx hbb2) (by omega)) rfl) rfl) rfl) rfl) rfl) rfl) rfl) rfl) (show RhX (updR (updR (updR R 2 (.ref pq)) 3 (.ref mq)) 4 (va_rf lp9)) (updR (updR (updR (updR (updR (updR R 2 (.ref pq)) 3 (.ref mq)) 4 (va_rf lp9)) 2 (.ref pq)) 3 (.ref mq)) 4 (va_rf lp9)) from fun k9 hk9 => by unfold updR; simp only [show ¬ k9 = 1 by omega, show ¬ k9 = 2 by omega, show ¬ k9 = 3 by omega, show ¬ k9 = 4 by omega, if_false]) hux) hnt hlocks hce hcv hcl hP9 hD9 hS9 (by show 0 + 1 ≤ ((rE (g 2 q) - rS (g 2 q)) + 1); omega) (by show 0 + 6 ≤ (6 * (rE (g 2 q) - rS (g 2 q)) + 6); omega))
      obtain ⟨w, K172, B173, cs174, as175, wt176, wf177, vr178, hd179, dp180, Ag181, sl182⟩ := u167
      obtain ⟨hw168, h183, h184, h185, h186, h187, h188, h189, h190, h191, h192, h193, h194, h195, h196, h197, hO⟩ := hw168
      have h183 : SmW B2 B173 cs2 := h183
      have h184 : BdE K K172 := h184
      have h185 : BeF K K172 := h185
      have h186 : BeL K K172 none := h186
      have h187 : Bth B2 B173 := h187
      have h188 : BsR B2 B173 := h188
      have h189 : cs2 ≤ cs174 ∧ cs174 + 1 ≤ cs2 + 2 * (tlE g q1 + tlE g q2 + 1) := h189
      have h190 : dp ≤ dp180 ∧ dp180 ≤ 71 := h190
      have h191 : vr ≤ vr178 ∧ vr178 ≤ 30 ∧ hd179 + vr = hd + vr178 := h191
      have h192 : AsO as175 := h192
      have h193 : VrS B2 B173 vr := h193
      have h194 : cs2 < cs174 := h194
      have h195 : EnV (B173 26) (B173 27) nd vr178 hd179 c0 sl182 := h195
      have h196 : StW pb.1 pb.2.1 pb.2.2.1 pb.2.2.2 A2 Ag181 Q9 Q9 pd pd m9 dp180 lw cs2 cs174 as9 as175 hd hd179 sl sl182 gr gr (B173 16) (B173 17) (B173 18) (B173 19) [] := h196
      have h197 : hd179 = hd := h197
      obtain rfl : v169 = none := hw168
      have hf198 : K172.1 pq = 7 := (BdE.T h184 hp1 (by decide))
      have hf199 : K172.2.2.1 18 pq = some (a 1) := (BdE.C h184 (by rw [hp1]; decide) 18).trans hp2
      have hf200 : K172.2.2.1 14 pq = some dr := (BdE.C h184 (by rw [hp1]; decide) 14).trans hp3
      have hf201 : K172.1 dr = 8 := (BdE.T h184 hp4 (by decide))
      have hf202 : K172.2.2.1 15 pq = some ml := (BdE.C h184 (by rw [hp1]; decide) 15).trans hp5
      have hf203 : K172.1 ml = 5 := (BdE.T h184 hp6 (by decide))
      have hf204 : K172.2.1 24 pq = (nI nd) := (BdE.I h184 (by rw [hp1]; decide) (by decide) (by decide)).trans hp8
      have hf205 : K172.1 q = 1 := (BdE.T h184 hqT (by decide))
      have hf206 : K172.1 mq = 3 := (BdE.T h184 hmq (by decide))
      have hf207 : K172.2.1 10 mq = (nI rt) := (BdE.I h184 (by rw [hmq]; decide) (by decide) (by decide)).trans hrt
      have hf208 : K172.2.1 0 q = 23 := (BdE.I h184 (by rw [hqT]; decide) (by decide) (by decide)).trans hkd
      have hf209 : K172.2.2.1 0 q = some q1 := (BdE.C h184 (by rw [hqT]; decide) 0).trans hc0
      have hf210 : K172.1 q1 = 1 := (BdE.T h184 ht0 (by decide))
      have hf211 : K172.2.2.1 1 q = some q2 := (BdE.C h184 (by rw [hqT]; decide) 1).trans hc1
      have hf212 : K172.1 q2 = 1 := (BdE.T h184 ht1 (by decide))
      have hO : OKP G h0 a (upd (upd (upd (upd (upd (upd (upd (upd (upd (upd F 2 (nI sz)) 5 (nI cs174)) 6 (nI rg)) 7 (nI hd179)) 8 (nI dp180)) 12 (nI vr178)) 13 as175) 14 wt176) 15 wf177) 16 ls9) (updR (updR (updR R 2 (.ref pq)) 3 (.ref mq)) 4 (va_rf lp9)) Z B173 J K172 w := hO.to rfl
      refine W.widen (k := 0) (n := 0) (by show 0 + 0 ≤ 0; omega) (by show 0 + 0 ≤ 0; omega) ?_
      refine W.eq (g2 := F0 m 180 ls []) rfl ?_
      have hbe213 := BdE.trans BdE.rfl h184
      have hbb214 : Bth B B173 := Bth.trans (show Thx (upd (upd (upd (upd (upd (upd (upd (upd F 2 (nI sz)) 5 (nI cs)) 6 (nI rg)) 7 (nI hd)) 8 (nI dp)) 12 (nI vr)) 13 as9) 16 ls9) (upd (upd (upd (upd (upd (upd (upd (upd (upd F 2 (nI sz)) 5 (nI cs)) 6 (nI rg)) 7 (nI hd)) 8 (nI dp)) 12 (nI vr)) 13 as9) 16 ls9) 5 (nI cs2)) B B2 from (Thx.f (Bth.thx hbb2) (by omega))).2 h187
      have hng215 : Nng (B173 18) := h187.2 hng2
      have hsw216 : ∀ x9 : Nat, x9 < cs → (B173 16) x9 = B 16 x9 := fun x9 hx9 => ((h183 x9 (by omega)).1).trans ((fun x9 hx9 => (hsw2 x9 hx9).1) x9 hx9)
      have hsw217 : ∀ x9 : Nat, x9 < cs → (B173 17) x9 = B 17 x9 := fun x9 hx9 => ((h183 x9 (by omega)).2.1).trans ((fun x9 hx9 => (hsw2 x9 hx9).2.1) x9 hx9)
      have hsw218 : ∀ x9 : Nat, x9 < cs → (B173 18) x9 = B 18 x9 := fun x9 hx9 => ((h183 x9 (by omega)).2.2.1).trans ((fun x9 hx9 => (hsw2 x9 hx9).2.2.1) x9 hx9)
      have hsw219 : ∀ x9 : Nat, x9 < cs → (B173 19) x9 = B 19 x9 := fun x9 hx9 => ((h183 x9 (by omega)).2.2.2).trans ((fun x9 hx9 => (hsw2 x9 hx9).2.2.2) x9 hx9)
      have hbf220 := BeF.trans BeF.rfl h185 BdE.rfl
      have hbl222 : BeL K K172 lp9 := BeL.trans BeL.rfl (BeL.any h186) BdE.rfl
      have hbr221 : BtR B B173 := BtR.trans hbr2 (BsR.bt h188)
      have hvs223 : VrS B B173 vr := VrS.trans hvs2 h193 (by omega)
      have hst224 : StW pb.1 pb.2.1 pb.2.2.1 pb.2.2.2 Ag Ag181 Q9 Q9 pd pd m9 dp180 lw cs cs174 as9 as175 hd hd179 sl sl182 gr gr (B173 16) (B173 17) (B173 18) (B173 19) ([] : List Nat) := StW.seq hst2 (by omega) (fun x9 hx9 => ⟨(h183 x9 hx9).1, (h183 x9 hx9).2.1⟩) h196
      have hsn225 := hst224.1.2.2.2.1
      have hrq226 : RgQx B173 Q9 gr nd := RgQx.ber hrq2 (BsR.rg h188 20 (by decide) (by decide)) (BsR.rg h188 21 (by decide) (by decide)) (BsR.rg h188 22 (by decide) (by decide)) (BsR.rg h188 23 (by decide) (by decide)) (BsR.rg h188 24 (by decide) (by decide))
      have hlp227 : LpS K172 (B173 16) (B173 17) Ag181 pd lp9 lw cs174 hd179 sl182 hdL slL xb xc := LpS.same hlp2 (fun lq9 e9 f9 _ _ => h186 lq9 (LpO.be BdE.rfl hlo lq9 e9) (fun z => by cases z) f9) (fun z9 hz9 => ⟨(h183 z9 hz9).1, (h183 z9 hz9).2.1, h196.2.2.1 z9 (by omega)⟩) (fun _ h9 => h9) (fun z9 h9 => Nat.lt_of_lt_of_le (hlp2.1 z9 h9) (by omega)) (by omega) h196.2.2.2.2.2.2.1
      have hpd228 : PdS pd pd xb xb xc xc ([] : List Nat) cs cs174 := PdS.wk (PdS.rfl (cs1 := cs2)) (by omega)
      have hlr229 : LpR K172 lp9 rL := LpR.same hlr (fun lq9 e9 f9 _ _ => h186 lq9 (LpO.be BdE.rfl hlo lq9 e9) (fun z => by cases z) f9)
      refine lv_goto (tgt := 241) hx hb dX0_statement_180 (by decide) ?_
      refine W_size (fun hz1 hz2 => ?_)
      refine vx_ret ?_
      have hz230 : SmW B B173 cs := (fun x9 hx9 => ⟨hsw216 x9 hx9, hsw217 x9 hx9, hsw218 x9 hx9, hsw219 x9 hx9⟩)
      have hz231 : BdE K K172 := hbe213
      have hz232 : BeF K K172 := hbf220
      have hz233 : BeL K K172 lp9 := hbl222
      have hz234 : Bth B B173 := (show Thx (upd (upd (upd (upd (upd (upd (upd (upd F 2 (nI sz)) 5 (nI cs)) 6 (nI rg)) 7 (nI hd)) 8 (nI dp)) 12 (nI vr)) 13 as9) 16 ls9) (upd (upd (upd (upd (upd (upd (upd (upd (upd (upd (upd (upd (upd (upd (upd F 2 (nI sz)) 5 (nI cs)) 6 (nI rg)) 7 (nI hd)) 8 (nI dp)) 12 (nI vr)) 13 as9) 16 ls9) 5 (nI cs174)) 7 (nI hd179)) 8 (nI dp180)) 12 (nI vr178)) 13 as175) 14 wt176) 15 wf177) B B173 from (Thx.f (Thx.f (Thx.f (Thx.f (Thx.f (Thx.f (Thx.f (Bth.thx hbb214) (by omega)) (by omega)) (by omega)) (by omega)) (by omega)) (by omega)) (by omega))).2
      have hz235 : BtR B B173 := hbr221
      have hz236 : cs ≤ cs174 ∧ cs174 + 0 ≤ cs + 2 * tlE g q := (by omega)
      have hz237 : dp ≤ dp180 ∧ dp180 ≤ 71 := (by omega)
      have hz238 : vr ≤ vr178 ∧ vr178 ≤ 30 ∧ hd179 + vr = hd + vr178 := (by omega)
      have hz239 : AsO as175 := h192
      have hz240 : VrS B B173 vr := hvs223
      have hz241 : cs < cs174 ∨ (hd179 = hd ∧ sl182 = sl) := (Or.inl (by omega))
      have hz242 : ¬ K.2.1 0 q = 22 → hd179 = hd := (fun _ => h197)
      have hz243 : gr ≤ gr ∧ rg ≤ 625 ∧ rg ≤ gr ∧ (rg = 625 ∨ rg = gr) := (by omega)
      have hz244 : EnV (B173 26) (B173 27) nd vr178 hd179 c0 sl182 := h195
      have hz245 : StW pb.1 pb.2.1 pb.2.2.1 pb.2.2.2 Ag Ag181 Q9 Q9 pd pd m9 dp180 lw cs cs174 as9 as175 hd hd179 sl sl182 gr gr (B173 16) (B173 17) (B173 18) (B173 19) [] := hst224
      have hz246 : LpS K172 (B173 16) (B173 17) Ag181 pd lp9 lw cs174 hd179 sl182 hdL slL xb xc := hlp227
      have hz247 : PdS pd pd xb xb xc xc [] cs cs174 := hpd228
      have hz248 : RgQx B173 Q9 gr nd := hrq226
      have hz249 : LpR K172 lp9 rL := hlr229
      have hO : OKP G h0 a (upd (upd (upd (upd (upd (upd (upd (upd (upd (upd F 2 (nI sz)) 5 (nI cs174)) 6 (nI rg)) 7 (nI hd179)) 8 (nI dp180)) 12 (nI vr178)) 13 as175) 14 wt176) 15 wf177) 16 ls9) (updR (updR (updR R 2 (.ref pq)) 3 (.ref mq)) 4 (va_rf lp9)) Z B173 J K172 w := hO.to rfl
      refine W.widen (k := ((rE (g 2 q) - rS (g 2 q)) + 1)) (n := (6 * (rE (g 2 q) - rS (g 2 q)) + 6)) (by omega) (by omega) ?_
      have hzz1 : H.size ≤ s.heap.size + ((rE (g 2 q) - rS (g 2 q))) := (by have z : 0 ≤ (rE (g 2 q) - rS (g 2 q)) := (by omega); omega)
      have hzz2 : hSl H ≤ hSl s.heap + ((6 * (rE (g 2 q) - rS (g 2 q)))) := (by have z : 0 ≤ (6 * (rE (g 2 q) - rS (g 2 q))) := (by omega); omega)
      exact W.vret hx hb hr (fun t99 ht99 hW99 => ⟨⟨_, (w, (K172, B173, cs174, as175, wt176, wf177, vr178, hd179, dp180, Ag181, sl182, rg, gr, ls9, Q9, pd, xb, xc)), rfl, ⟨rfl, hz230, hz231, hz232, hz233, hz234, hz235, hz236, hz237, hz238, hz239, hz240, hz241, hz242, hz243, hz244, hz245, hz246, hz247, hz248, hz249, hO⟩, by rw [ht99]; exact hP, hD, by rw [ht99]; exact hzz1, by rw [ht99]; exact hzz2⟩, hS.F ht99⟩) hS.2.2 dX0_statement_241
    by_cases h250 : kd = 24
    · subst h250
      refine lv_tableIn (tgt := 215) (off := 179) hx hb dX0_statement_36 (by decide) (by decide) (by decide) (by decide) ?_
      obtain ⟨q1, hc0, ht0, hw0⟩ := NdO.ch hnd (f := 0) (by decide) (hnd.1.1 (by rw [hkd]; decide))
      have hv0 : 1 ≤ g 0 q1 ∧ g 0 q1 + 1 ≤ n := ⟨hw0.1, (by have z := hw0.2; omega)⟩
      obtain ⟨hes1, htl9, heT, heC⟩ := hskq.2.2.1 hkd q1 hc0
      have hes3 := hes1.2
      have hes4 := hes1.1.1
      have hes5 := hes1.1.2
      refine lv_aload_n hx hb dX0_statement_215 rfl (lv_at hl 2 rfl) ?_
      refine lv_aload_n hx hb dX0_statement_216 rfl (lv_at hl 1 rfl) ?_
      refine p_get (v := .ref q1) (C := RX7) (Tc := TX7) (N := 11) (ci := 13) hx hb hq pin_wsX70 hown hE hP hO (by rw [hqT]; decide) (rep_1 hqT) rfl 6 (by decide) (hq _ pw_180) (fun _ h9 => h9) (congrArg (fun z => some (va_rf z)) hc0) dX0_statement_217 ?_
      have hO : OKP G h0 a (upd (upd (upd (upd (upd (upd (upd (upd (upd (upd (upd (upd (upd (upd F 2 (nI sz)) 5 (nI cs)) 6 (nI rg)) 7 (nI hd)) 8 (nI dp)) 12 (nI vr)) 13 as9) 16 ls9) 5 (nI cs2)) 2 (nI sz)) 5 (nI cs2)) 7 (nI hd)) 12 (nI vr)) 13 as9) (updR (updR (updR (updR (updR R 2 (.ref pq)) 3 (.ref mq)) 4 (va_rf lp9)) 2 (.ref pq)) 3 (.ref mq)) Z B2 J K w := hO.to rfl
      obtain ⟨_, qr254, hqr255⟩ := hO.2.1 24 _ (sg_24 G h0 a _ _ _ _ _)
      refine pn_V0 (G := G) (As := [.ref q1]) (rest := []) hx hb hml hown hq hE hX pX0_al hP hD hS hA hl.1 ((PY_all l G (n - 1)) h0 a (upd (upd (upd (upd (upd (upd (upd (upd (upd F 2 (nI sz)) 5 (nI cs)) 6 (nI rg)) 7 (nI hd)) 8 (nI dp)) 12 (nI vr)) 13 as9) 16 ls9) 5 (nI cs2)) (updR (updR (updR R 2 (.ref pq)) 3 (.ref mq)) 4 (va_rf lp9)) Z B2 J K w pq dr ml nd nm cp it s9 q1 mq cs2 vr sz g rk pb A2 pd sl ([] : List Nat) m9 dp lw hd c0 as9 True (by omega) (BdE.wp BdE.rfl hwp) (BdE.pt BdE.rfl hwp hps) (BdE.rko BdE.rfl hrk) (by omega) (by omega) hng2 hmq ht0 ⟨hv0.1, (by have z9 := hv0; omega)⟩ (EkA.be BdE.rfl (hbr2 7 (by decide)) (hbr2 11 (by decide)) hek) (OwC.be BdE.rfl hmq hdr0 hcO) (NaB.be BdE.rfl BeF.rfl hwp hps.2.1 hdr0 (hbr2 11 (by decide)) hna) hen2 (fun _ => hst2.1) (by omega) (by show 0 + ndE g q1 ≤ 248; omega) hes1.1 hO hl0) (gV pw_173 pw_174 pw_175 pw_63 pw_224) hV_X0_value qr254 0 hqr255 rfl rfl rfl (Nat.le_of_ble_eq_true rfl) dX0_statement_220 ⟨(by show 0 + 1 ≤ ((rE (g 2 q) - rS (g 2 q)) + 1); omega), (by show 0 + 6 ≤ (6 * (rE (g 2 q) - rS (g 2 q)) + 6); omega)⟩ ⟨(by show (5 * (n - 1) + 34) + 1 ≤ (5 * n + 50); omega), (by show 8 + (3 + 11) + (200 * (n - 1) + 600) ≤ (200 * n + 1200); omega)⟩ (fun v253 u251 H locs hw252 hP hD hS => ?_) (fun ux ce9 q9 H9 locs9 hux hP9 hD9 hS9 hce hcv hcl => pb_out ux (ThQ.up (Thx.same (Thx.same (Thx.same (Thx.same (Thx.same (Thx.f (Bth.thx hbb2) (by omega)) rfl) rfl) rfl) rfl) rfl) (show RhX (updR (updR (updR R 2 (.ref pq)) 3 (.ref mq)) 4 (va_rf lp9)) (updR (updR (updR (updR (updR R 2 (.ref pq)) 3 (.ref mq)) 4 (va_rf lp9)) 2 (.ref pq)) 3 (.ref mq)) from fun k9 hk9 => by unfold updR; simp only [show ¬ k9 = 1 by omega, show ¬ k9 = 2 by omega, show ¬ k9 = 3 by omega, show ¬ k9 = 4 by omega, if_false]) hux) hnt hlocks hce hcv hcl hP9 hD9 hS9 (by show 0 + 1 ≤ ((rE (g 2 q) - rS (g 2 q)) + 1); omega) (by show 0 + 6 ≤ (6 * (rE (g 2 q) - rS (g 2 q)) + 6); omega))
      obtain ⟨w, K256, B257, cs258, as259, wt260, wf261, t262, Ag263, u264⟩ := u251
      obtain ⟨hw252, h265, h266, h267, h268, h269, h270, h271, h272, h273, h274, h275, h276, hO⟩ := hw252
      have h265 : SmW B2 B257 cs2 := h265
      have h266 : BdE K K256 := h266
      have h267 : BeF K K256 := h267
      have h268 : BeL K K256 none := h268
      have h269 : BeI K K256 g q1 := h269
      have h270 : Bth B2 B257 := h270
      have h271 : BeR B2 B257 := h271
      have h272 : t262 < 128 := h272
      have h273 : cs2 ≤ cs258 ∧ cs258 + 0 ≤ cs2 + 2 * tlE g q1 := h273
      have h274 : AsE as9 as259 ∧ AsE as9 wt260 ∧ AsE as9 wf261 := h274
      have h275 : True → VaQ pb B2 B257 A2 Ag263 pd m9 dp lw cs2 cs258 as9 as259 wt260 wf261 hd sl ([] : List Nat) t262 u264 (K.2.1 0 q1) := h275
      have h276 : CaK (K.2.1 0 q1) → cs258 + 2 ≤ cs2 + 2 * tlE g q1 := h276
      obtain rfl : v253 = some (.int (nI t262)) := hw252
      have hf277 : K256.1 pq = 7 := (BdE.T h266 hp1 (by decide))
      have hf278 : K256.2.2.1 18 pq = some (a 1) := (BdE.C h266 (by rw [hp1]; decide) 18).trans hp2
      have hf279 : K256.2.2.1 14 pq = some dr := (BdE.C h266 (by rw [hp1]; decide) 14).trans hp3
      have hf280 : K256.1 dr = 8 := (BdE.T h266 hp4 (by decide))
      have hf281 : K256.2.2.1 15 pq = some ml := (BdE.C h266 (by rw [hp1]; decide) 15).trans hp5
      have hf282 : K256.1 ml = 5 := (BdE.T h266 hp6 (by decide))
      have hf283 : K256.2.1 24 pq = (nI nd) := (BdE.I h266 (by rw [hp1]; decide) (by decide) (by decide)).trans hp8
      have hf284 : K256.1 q = 1 := (BdE.T h266 hqT (by decide))
      have hf285 : K256.1 mq = 3 := (BdE.T h266 hmq (by decide))
      have hf286 : K256.2.1 10 mq = (nI rt) := (BdE.I h266 (by rw [hmq]; decide) (by decide) (by decide)).trans hrt
      have hf287 : K256.2.1 0 q = 24 := (BdE.I h266 (by rw [hqT]; decide) (by decide) (by decide)).trans hkd
      have hf288 : K256.2.2.1 0 q = some q1 := (BdE.C h266 (by rw [hqT]; decide) 0).trans hc0
      have hf289 : K256.1 q1 = 1 := (BdE.T h266 ht0 (by decide))
      have hO : OKP G h0 a (upd (upd (upd (upd (upd (upd (upd (upd (upd (upd F 2 (nI sz)) 5 (nI cs258)) 6 (nI rg)) 7 (nI hd)) 8 (nI dp)) 12 (nI vr)) 13 as259) 14 wt260) 15 wf261) 16 ls9) (updR (updR (updR R 2 (.ref pq)) 3 (.ref mq)) 4 (va_rf lp9)) Z B257 J K256 w := hO.to rfl
      refine W.widen (k := 0) (n := 0) (by show 0 + 0 ≤ 0; omega) (by show 0 + 0 ≤ 0; omega) ?_
      refine W.eq (g2 := F0 m 223 ls [.int (nI t262)]) rfl ?_
      have hbe290 := BdE.trans BdE.rfl h266
      have hbb291 : Bth B B257 := Bth.trans (show Thx (upd (upd (upd (upd (upd (upd (upd (upd F 2 (nI sz)) 5 (nI cs)) 6 (nI rg)) 7 (nI hd)) 8 (nI dp)) 12 (nI vr)) 13 as9) 16 ls9) (upd (upd (upd (upd (upd (upd (upd (upd (upd F 2 (nI sz)) 5 (nI cs)) 6 (nI rg)) 7 (nI hd)) 8 (nI dp)) 12 (nI vr)) 13 as9) 16 ls9) 5 (nI cs2)) B B2 from (Thx.f (Bth.thx hbb2) (by omega))).2 h270
      have hng292 : Nng (B257 18) := h270.2 hng2
      have hsw293 : ∀ x9 : Nat, x9 < cs → (B257 16) x9 = B 16 x9 := fun x9 hx9 => ((h265 x9 (by omega)).1).trans ((fun x9 hx9 => (hsw2 x9 hx9).1) x9 hx9)
      have hsw294 : ∀ x9 : Nat, x9 < cs → (B257 17) x9 = B 17 x9 := fun x9 hx9 => ((h265 x9 (by omega)).2.1).trans ((fun x9 hx9 => (hsw2 x9 hx9).2.1) x9 hx9)
      have hsw295 : ∀ x9 : Nat, x9 < cs → (B257 18) x9 = B 18 x9 := fun x9 hx9 => ((h265 x9 (by omega)).2.2.1).trans ((fun x9 hx9 => (hsw2 x9 hx9).2.2.1) x9 hx9)
      have hsw296 : ∀ x9 : Nat, x9 < cs → (B257 19) x9 = B 19 x9 := fun x9 hx9 => ((h265 x9 (by omega)).2.2.2).trans ((fun x9 hx9 => (hsw2 x9 hx9).2.2.2) x9 hx9)
      have hbf297 := BeF.trans BeF.rfl h267 BdE.rfl
      have hbl299 : BeL K K256 lp9 := BeL.trans BeL.rfl (BeL.any h268) BdE.rfl
      have hbr298 : BtR B B257 := BtR.trans hbr2 (BeR.bt h271)
      have hen300 : EnV (B257 26) (B257 27) nd vr hd c0 sl := EnV.of (h271 26 (by decide)) (h271 27 (by decide)) hen2
      have hvs301 : VrS B B257 vr := fun i9 hi9 => ⟨(congrFun (h271 26 (by decide)) i9).trans (hvs2 i9 hi9).1, (congrFun (h271 27 (by decide)) i9).trans (hvs2 i9 hi9).2⟩
      have hao302 : AsO as259 ∧ AsO wt260 ∧ AsO wf261 := ⟨AsE.aso h274.1 hao, AsE.aso h274.2.1 hao, AsE.aso h274.2.2 hao⟩
      have hrq303 : RgQx B257 Q9 gr nd := RgQx.ber hrq2 (h271 20 (by decide)) (h271 21 (by decide)) (h271 22 (by decide)) (h271 23 (by decide)) (h271 24 (by decide))
      have hqc304 := h276 (by rw [BdE.I BdE.rfl (by rw [ht0]; decide) (by decide) (by decide)]; exact heC)
      refine lv_bipush (v := 63) hx hb dX0_statement_223 (by decide) ?_
      refine lv_icmp_eq (tgt := 241) hx hb dX0_statement_225 (by decide) (fun c305 => ?_) (fun c305 => ?_)
      · have n306 : t262 = 63 := (nI_eq (a := t262) (b := 63) (by omega) (by omega)).mp c305
        have hevq307 := VaQ.call (h275 trivial) (by rw [BdE.I BdE.rfl (by rw [ht0]; decide) (by decide) (by decide)]; exact heC) (by omega)
        have hlt9 := VaQ.clt (h275 trivial) (by rw [BdE.I BdE.rfl (by rw [ht0]; decide) (by decide) (by decide)]; exact heC)
        have hst308 : StW pb.1 pb.2.1 pb.2.2.1 pb.2.2.2 Ag Ag263 Q9 Q9 pd pd m9 dp lw cs cs258 as9 as259 hd hd sl sl gr gr (B257 16) (B257 17) (B257 18) (B257 19) ([] : List Nat) := StW.ev hst2 hevq307
        have hlp309 : LpS K256 (B257 16) (B257 17) Ag263 pd lp9 lw cs258 hd sl hdL slL xb xc := LpS.same hlp2 (fun lq9 e9 f9 _ _ => h268 lq9 (LpO.be BdE.rfl hlo lq9 e9) (fun z => by cases z) f9) (fun z9 hz9 => ⟨(hevq307.2.1 z9 hz9).1, (hevq307.2.1 z9 hz9).2.1, (hevq307.2.1 z9 hz9).2.2.2.2⟩) (fun _ h9 => h9) (fun z9 h9 => Nat.lt_of_lt_of_le (hlp2.1 z9 h9) (by omega)) (by omega) ⟨Nat.le_refl _, fun _ _ => rfl⟩
        have hpd310 : PdS pd pd xb xb xc xc ([] : List Nat) cs cs258 := PdS.wk (PdS.rfl (cs1 := cs2)) (by omega)
        have hlr311 : LpR K256 lp9 rL := LpR.same hlr (fun lq9 e9 f9 _ _ => h268 lq9 (LpO.be BdE.rfl hlo lq9 e9) (fun z => by cases z) f9)
        refine W_size (fun hz1 hz2 => ?_)
        refine vx_ret ?_
        have hz312 : SmW B B257 cs := (fun x9 hx9 => ⟨hsw293 x9 hx9, hsw294 x9 hx9, hsw295 x9 hx9, hsw296 x9 hx9⟩)
        have hz313 : BdE K K256 := hbe290
        have hz314 : BeF K K256 := hbf297
        have hz315 : BeL K K256 lp9 := hbl299
        have hz316 : Bth B B257 := (show Thx (upd (upd (upd (upd (upd (upd (upd (upd F 2 (nI sz)) 5 (nI cs)) 6 (nI rg)) 7 (nI hd)) 8 (nI dp)) 12 (nI vr)) 13 as9) 16 ls9) (upd (upd (upd (upd (upd (upd (upd (upd (upd (upd (upd (upd F 2 (nI sz)) 5 (nI cs)) 6 (nI rg)) 7 (nI hd)) 8 (nI dp)) 12 (nI vr)) 13 as9) 16 ls9) 5 (nI cs258)) 13 as259) 14 wt260) 15 wf261) B B257 from (Thx.f (Thx.f (Thx.f (Thx.f (Bth.thx hbb291) (by omega)) (by omega)) (by omega)) (by omega))).2
        have hz317 : BtR B B257 := hbr298
        have hz318 : cs ≤ cs258 ∧ cs258 + 0 ≤ cs + 2 * tlE g q := (by omega)
        have hz319 : dp ≤ dp ∧ dp ≤ 71 := (by omega)
        have hz320 : vr ≤ vr ∧ vr ≤ 30 ∧ hd + vr = hd + vr := (by omega)
        have hz321 : AsO as259 := hao302.1
        have hz322 : VrS B B257 vr := hvs301
        have hz323 : cs < cs258 ∨ (hd = hd ∧ sl = sl) := (Or.inr ⟨rfl, rfl⟩)
        have hz324 : ¬ K.2.1 0 q = 22 → hd = hd := (fun _ => rfl)
        have hz325 : gr ≤ gr ∧ rg ≤ 625 ∧ rg ≤ gr ∧ (rg = 625 ∨ rg = gr) := (by omega)
        have hz326 : EnV (B257 26) (B257 27) nd vr hd c0 sl := hen300
        have hz327 : StW pb.1 pb.2.1 pb.2.2.1 pb.2.2.2 Ag Ag263 Q9 Q9 pd pd m9 dp lw cs cs258 as9 as259 hd hd sl sl gr gr (B257 16) (B257 17) (B257 18) (B257 19) [] := hst308
        have hz328 : LpS K256 (B257 16) (B257 17) Ag263 pd lp9 lw cs258 hd sl hdL slL xb xc := hlp309
        have hz329 : PdS pd pd xb xb xc xc [] cs cs258 := hpd310
        have hz330 : RgQx B257 Q9 gr nd := hrq303
        have hz331 : LpR K256 lp9 rL := hlr311
        have hO : OKP G h0 a (upd (upd (upd (upd (upd (upd (upd (upd (upd (upd F 2 (nI sz)) 5 (nI cs258)) 6 (nI rg)) 7 (nI hd)) 8 (nI dp)) 12 (nI vr)) 13 as259) 14 wt260) 15 wf261) 16 ls9) (updR (updR (updR R 2 (.ref pq)) 3 (.ref mq)) 4 (va_rf lp9)) Z B257 J K256 w := hO.to rfl
        refine W.widen (k := ((rE (g 2 q) - rS (g 2 q)) + 1)) (n := (6 * (rE (g 2 q) - rS (g 2 q)) + 6)) (by omega) (by omega) ?_
        have hzz1 : H.size ≤ s.heap.size + ((rE (g 2 q) - rS (g 2 q))) := (by have z : 0 ≤ (rE (g 2 q) - rS (g 2 q)) := (by omega); omega)
        have hzz2 : hSl H ≤ hSl s.heap + ((6 * (rE (g 2 q) - rS (g 2 q)))) := (by have z : 0 ≤ (6 * (rE (g 2 q) - rS (g 2 q))) := (by omega); omega)
        exact W.vret hx hb hr (fun t99 ht99 hW99 => ⟨⟨_, (w, (K256, B257, cs258, as259, wt260, wf261, vr, hd, dp, Ag263, sl, rg, gr, ls9, Q9, pd, xb, xc)), rfl, ⟨rfl, hz312, hz313, hz314, hz315, hz316, hz317, hz318, hz319, hz320, hz321, hz322, hz323, hz324, hz325, hz326, hz327, hz328, hz329, hz330, hz331, hO⟩, by rw [ht99]; exact hP, hD, by rw [ht99]; exact hzz1, by rw [ht99]; exact hzz2⟩, hS.F ht99⟩) hS.2.2 dX0_statement_241
      · have n332 : ¬ (t262 = 63) := fun h9 => c305 ((nI_eq (a := t262) (b := 63) (by omega) (by omega)).mpr h9)
        have hst333 : StW pb.1 pb.2.1 pb.2.2.1 pb.2.2.2 Ag Ag263 Q9 Q9 pd pd m9 dp lw cs cs258 as9 as259 hd hd sl sl gr gr (B257 16) (B257 17) (B257 18) (B257 19) (u264 :: ([] : List Nat)) := StW.ev hst2 (VaQ.ev (h275 trivial) h272 (by omega))
        have hut334 : UTb u264 (nI t262) as259 wt260 wf261 := VaQ.ut (h275 trivial) (by omega)
        have hevq335 := VaQ.ev (h275 trivial) h272 (by omega)
        have hlp336 : LpS K256 (B257 16) (B257 17) Ag263 pd lp9 lw cs258 hd sl hdL slL xb xc := LpS.same hlp2 (fun lq9 e9 f9 _ _ => h268 lq9 (LpO.be BdE.rfl hlo lq9 e9) (fun z => by cases z) f9) (fun z9 hz9 => ⟨(hevq335.2.1 z9 hz9).1, (hevq335.2.1 z9 hz9).2.1, (hevq335.2.1 z9 hz9).2.2.2.2⟩) (fun _ h9 => h9) (fun z9 h9 => Nat.lt_of_lt_of_le (hlp2.1 z9 h9) (by omega)) (by omega) ⟨Nat.le_refl _, fun _ _ => rfl⟩
        have hpd337 : PdS pd pd xb xb xc xc ([] : List Nat) cs cs258 := PdS.wk (PdS.rfl (cs1 := cs2)) (by omega)
        have hlr338 : LpR K256 lp9 rL := LpR.same hlr (fun lq9 e9 f9 _ _ => h268 lq9 (LpO.be BdE.rfl hlo lq9 e9) (fun z => by cases z) f9)
        refine lv_aload_n hx hb dX0_statement_228 rfl (lv_at hl 2 rfl) ?_
        refine c_get (v := .ref (a 2)) (C := RX0) (Tc := TX0) (N := 13) (ci := 0) hx hb hq pin_wsX00 hown hE hP hO 24 (sg_24 G h0 a _ _ _ _ _) rfl 1 (by decide) (hq _ pw_5) (fun _ h9 => h9) rfl dX0_statement_229 ?_
        refine lv_iconst (v := 5) hx hb dX0_statement_232 (by decide) ?_
        refine lv_iconst (v := 0) hx hb dX0_statement_233 (by decide) ?_
        refine lv_iconst (v := 0) hx hb dX0_statement_234 (by decide) ?_
        have hO : OKW G h0 a (upd (upd (upd (upd (upd (upd (upd (upd (upd (upd (upd (upd F 2 (nI sz)) 5 (nI cs258)) 6 (nI rg)) 7 (nI hd)) 8 (nI dp)) 12 (nI vr)) 13 as259) 14 wt260) 15 wf261) 16 ls9) 5 (nI cs258)) 7 (nI hd)) (updR (updR (updR R 2 (.ref pq)) 3 (.ref mq)) 4 (va_rf lp9)) Z B257 J K256.1 (fun q99 x99 => x99 = rep G a K256 q99) w := hO.to rfl
        obtain ⟨_, qr342, hqr343⟩ := hO.2.1 13 _ (sg_13 G h0 a _ _ _ _ _)
        refine pc_V0 (G := G) (As := [.int 5, .int 0, .int 0]) (rest := []) hx hb hml hown hq hE hX pX0_al hP hD hS hA hl.1 (Y_emit l G h0 a (upd (upd (upd (upd (upd (upd (upd (upd (upd (upd F 2 (nI sz)) 5 (nI cs258)) 6 (nI rg)) 7 (nI hd)) 8 (nI dp)) 12 (nI vr)) 13 as259) 14 wt260) 15 wf261) 16 ls9) (updR (updR (updR R 2 (.ref pq)) 3 (.ref mq)) 4 (va_rf lp9)) Z B257 J K256.1 (fun q99 x99 => x99 = rep G a K256 q99) w 5 0 0 cs258 hd (by omega) hO) (gV pw_129 pw_130 pw_131 pw_70 pw_115) hV_X1_emit qr342 1 hqr343 rfl rfl rfl (Nat.le_of_ble_eq_true rfl) dX0_statement_235 ⟨(by show 0 + 0 ≤ ((rE (g 2 q) - rS (g 2 q)) + 1); omega), (by show 0 + 0 ≤ (6 * (rE (g 2 q) - rS (g 2 q)) + 6); omega)⟩ ⟨(by show 2 + 1 ≤ (5 * n + 50); omega), (by show 8 + (4 + 11) + 60 ≤ (200 * n + 1200); omega)⟩ (fun v341 u339 H locs hw340 hP hD hS => ?_)
        obtain ⟨w, _⟩ := u339
        obtain ⟨hw340, hO⟩ := hw340
        obtain rfl : v341 = none := hw340
        have hO : OKP G h0 a (upd (upd (upd (upd (upd (upd (upd (upd (upd (upd F 2 (nI sz)) 5 (nI (cs258 + 1))) 6 (nI rg)) 7 (nI hd)) 8 (nI dp)) 12 (nI vr)) 13 as259) 14 wt260) 15 wf261) 16 ls9) (updR (updR (updR R 2 (.ref pq)) 3 (.ref mq)) 4 (va_rf lp9)) Z (updA (updA (updA (updA B257 16 (upd ((B257 16)) cs258 5)) 17 (upd ((B257 17)) cs258 0)) 18 (upd ((B257 18)) cs258 0)) 19 (upd ((B257 19)) cs258 (nI hd))) J K256 w := hO.to rfl
        refine W.widen (k := 0) (n := 0) (Nat.le_of_ble_eq_true rfl) (Nat.le_of_ble_eq_true rfl) ?_
        refine W.eq (g2 := F0 m 238 ls []) rfl ?_
        have hsw344 : ∀ x9 : Nat, x9 < cs → (upd ((B257 16)) cs258 5) x9 = B 16 x9 := fun x9 hx9 => (if_neg (by omega)).trans (hsw293 x9 hx9)
        have hsw345 : ∀ x9 : Nat, x9 < cs → (upd ((B257 17)) cs258 0) x9 = B 17 x9 := fun x9 hx9 => (if_neg (by omega)).trans (hsw294 x9 hx9)
        have hsw346 : ∀ x9 : Nat, x9 < cs → (upd ((B257 18)) cs258 0) x9 = B 18 x9 := fun x9 hx9 => (if_neg (by omega)).trans (hsw295 x9 hx9)
        have hsw347 : ∀ x9 : Nat, x9 < cs → (upd ((B257 19)) cs258 (nI hd)) x9 = B 19 x9 := fun x9 hx9 => (if_neg (by omega)).trans (hsw296 x9 hx9)
        obtain ⟨Ag348, hst349, hag350⟩ : ∃ A5 : Nat → AS, StW pb.1 pb.2.1 pb.2.2.1 pb.2.2.2 Ag A5 Q9 Q9 pd pd m9 dp lw cs (cs258 + 1) as9 as259 hd hd sl sl gr gr (upd ((B257 16)) cs258 5) (upd ((B257 17)) cs258 0) (upd ((B257 18)) cs258 0) (upd ((B257 19)) cs258 (nI hd)) ([] : List Nat) ∧ ∀ x9 : Nat, x9 ≤ cs258 → A5 x9 = Ag263 x9 := ⟨(upS Ag263 (cs258 + 1) (rcA as259, hd, sl, ([] : List Nat))), StW.pop1 hst333, fun x9 hx9 => upS_ne (by omega)⟩
        have hlp351 : LpS K256 (upd ((B257 16)) cs258 5) (upd ((B257 17)) cs258 0) Ag348 pd lp9 lw (cs258 + 1) hd sl hdL slL xb xc := LpS.same hlp336 (fun _ _ _ _ _ => rfl) (fun z9 hz9 => ⟨if_neg (by omega), if_neg (by omega), hag350 z9 (by omega)⟩) (fun _ h9 => h9) (fun z9 h9 => Nat.lt_succ_of_lt (hlp336.1 z9 h9)) (by omega) ⟨Nat.le_refl _, fun _ _ => rfl⟩
        have hng352 : Nng (upd ((B257 18)) cs258 0) := Nng.set hng292 (k := 0) (by omega)
        have hpd353 : PdS pd pd xb xb xc xc ([] : List Nat) cs (cs258 + 1) := PdS.wk hpd337 (by omega)
        refine lv_goto (tgt := 241) hx hb dX0_statement_238 (by decide) ?_
        refine W_size (fun hz1 hz2 => ?_)
        refine vx_ret ?_
        have hz354 : SmW B (updA (updA (updA (updA B257 16 (upd ((B257 16)) cs258 5)) 17 (upd ((B257 17)) cs258 0)) 18 (upd ((B257 18)) cs258 0)) 19 (upd ((B257 19)) cs258 (nI hd))) cs := (fun x9 hx9 => ⟨hsw344 x9 hx9, hsw345 x9 hx9, hsw346 x9 hx9, hsw347 x9 hx9⟩)
        have hz355 : BdE K K256 := hbe290
        have hz356 : BeF K K256 := hbf297
        have hz357 : BeL K K256 lp9 := hbl299
        have hz358 : Bth B (updA (updA (updA (updA B257 16 (upd ((B257 16)) cs258 5)) 17 (upd ((B257 17)) cs258 0)) 18 (upd ((B257 18)) cs258 0)) 19 (upd ((B257 19)) cs258 (nI hd))) := (show Thx (upd (upd (upd (upd (upd (upd (upd (upd F 2 (nI sz)) 5 (nI cs)) 6 (nI rg)) 7 (nI hd)) 8 (nI dp)) 12 (nI vr)) 13 as9) 16 ls9) (upd (upd (upd (upd (upd (upd (upd (upd (upd (upd (upd (upd F 2 (nI sz)) 5 (nI cs)) 6 (nI rg)) 7 (nI hd)) 8 (nI dp)) 12 (nI vr)) 13 as9) 16 ls9) 5 (nI (cs258 + 1))) 13 as259) 14 wt260) 15 wf261) B (updA (updA (updA (updA B257 16 (upd ((B257 16)) cs258 5)) 17 (upd ((B257 17)) cs258 0)) 18 (upd ((B257 18)) cs258 0)) 19 (upd ((B257 19)) cs258 (nI hd))) from (Thx.b (Thx.b8 (Thx.b (Thx.b (Thx.f (Thx.f (Thx.f (Thx.f (Bth.thx hbb291) (by omega)) (by omega)) (by omega)) (by omega)) (by omega) (by decide)) (by omega) (by decide)) hng352) (by omega) (by decide))).2
        have hz359 : BtR B (updA (updA (updA (updA B257 16 (upd ((B257 16)) cs258 5)) 17 (upd ((B257 17)) cs258 0)) 18 (upd ((B257 18)) cs258 0)) 19 (upd ((B257 19)) cs258 (nI hd))) := (BtR.up (BtR.up (BtR.up (BtR.up hbr298 (by omega)) (by omega)) (by omega)) (by omega))
        have hz360 : cs ≤ (cs258 + 1) ∧ (cs258 + 1) + 0 ≤ cs + 2 * tlE g q := (by omega)
        have hz361 : dp ≤ dp ∧ dp ≤ 71 := (by omega)
        have hz362 : vr ≤ vr ∧ vr ≤ 30 ∧ hd + vr = hd + vr := (by omega)
        have hz363 : AsO as259 := hao302.1
        have hz364 : VrS B (updA (updA (updA (updA B257 16 (upd ((B257 16)) cs258 5)) 17 (upd ((B257 17)) cs258 0)) 18 (upd ((B257 18)) cs258 0)) 19 (upd ((B257 19)) cs258 (nI hd))) vr := hvs301
        have hz365 : cs < (cs258 + 1) ∨ (hd = hd ∧ sl = sl) := (Or.inr ⟨rfl, rfl⟩)
        have hz366 : ¬ K.2.1 0 q = 22 → hd = hd := (fun _ => rfl)
        have hz367 : gr ≤ gr ∧ rg ≤ 625 ∧ rg ≤ gr ∧ (rg = 625 ∨ rg = gr) := (by omega)
        have hz368 : EnV ((updA (updA (updA (updA B257 16 (upd ((B257 16)) cs258 5)) 17 (upd ((B257 17)) cs258 0)) 18 (upd ((B257 18)) cs258 0)) 19 (upd ((B257 19)) cs258 (nI hd))) 26) ((updA (updA (updA (updA B257 16 (upd ((B257 16)) cs258 5)) 17 (upd ((B257 17)) cs258 0)) 18 (upd ((B257 18)) cs258 0)) 19 (upd ((B257 19)) cs258 (nI hd))) 27) nd vr hd c0 sl := hen300
        have hz369 : StW pb.1 pb.2.1 pb.2.2.1 pb.2.2.2 Ag Ag348 Q9 Q9 pd pd m9 dp lw cs (cs258 + 1) as9 as259 hd hd sl sl gr gr ((updA (updA (updA (updA B257 16 (upd ((B257 16)) cs258 5)) 17 (upd ((B257 17)) cs258 0)) 18 (upd ((B257 18)) cs258 0)) 19 (upd ((B257 19)) cs258 (nI hd))) 16) ((updA (updA (updA (updA B257 16 (upd ((B257 16)) cs258 5)) 17 (upd ((B257 17)) cs258 0)) 18 (upd ((B257 18)) cs258 0)) 19 (upd ((B257 19)) cs258 (nI hd))) 17) ((updA (updA (updA (updA B257 16 (upd ((B257 16)) cs258 5)) 17 (upd ((B257 17)) cs258 0)) 18 (upd ((B257 18)) cs258 0)) 19 (upd ((B257 19)) cs258 (nI hd))) 18) ((updA (updA (updA (updA B257 16 (upd ((B257 16)) cs258 5)) 17 (upd ((B257 17)) cs258 0)) 18 (upd ((B257 18)) cs258 0)) 19 (upd ((B257 19)) cs258 (nI hd))) 19) [] := hst349
        have hz370 : LpS K256 ((updA (updA (updA (updA B257 16 (upd ((B257 16)) cs258 5)) 17 (upd ((B257 17)) cs258 0)) 18 (upd ((B257 18)) cs258 0)) 19 (upd ((B257 19)) cs258 (nI hd))) 16) ((updA (updA (updA (updA B257 16 (upd ((B257 16)) cs258 5)) 17 (upd ((B257 17)) cs258 0)) 18 (upd ((B257 18)) cs258 0)) 19 (upd ((B257 19)) cs258 (nI hd))) 17) Ag348 pd lp9 lw (cs258 + 1) hd sl hdL slL xb xc := hlp351
        have hz371 : PdS pd pd xb xb xc xc [] cs (cs258 + 1) := hpd353
        have hz372 : RgQx (updA (updA (updA (updA B257 16 (upd ((B257 16)) cs258 5)) 17 (upd ((B257 17)) cs258 0)) 18 (upd ((B257 18)) cs258 0)) 19 (upd ((B257 19)) cs258 (nI hd))) Q9 gr nd := hrq303
        have hz373 : LpR K256 lp9 rL := hlr338
        have hO : OKP G h0 a (upd (upd (upd (upd (upd (upd (upd (upd (upd (upd F 2 (nI sz)) 5 (nI (cs258 + 1))) 6 (nI rg)) 7 (nI hd)) 8 (nI dp)) 12 (nI vr)) 13 as259) 14 wt260) 15 wf261) 16 ls9) (updR (updR (updR R 2 (.ref pq)) 3 (.ref mq)) 4 (va_rf lp9)) Z (updA (updA (updA (updA B257 16 (upd ((B257 16)) cs258 5)) 17 (upd ((B257 17)) cs258 0)) 18 (upd ((B257 18)) cs258 0)) 19 (upd ((B257 19)) cs258 (nI hd))) J K256 w := hO.to rfl
        refine W.widen (k := ((rE (g 2 q) - rS (g 2 q)) + 1)) (n := (6 * (rE (g 2 q) - rS (g 2 q)) + 6)) (by omega) (by omega) ?_
        have hzz1 : H.size ≤ s.heap.size + ((rE (g 2 q) - rS (g 2 q))) := (by have z : 0 ≤ (rE (g 2 q) - rS (g 2 q)) := (by omega); omega)
        have hzz2 : hSl H ≤ hSl s.heap + ((6 * (rE (g 2 q) - rS (g 2 q)))) := (by have z : 0 ≤ (6 * (rE (g 2 q) - rS (g 2 q))) := (by omega); omega)
        exact W.vret hx hb hr (fun t99 ht99 hW99 => ⟨⟨_, (w, (K256, (updA (updA (updA (updA B257 16 (upd ((B257 16)) cs258 5)) 17 (upd ((B257 17)) cs258 0)) 18 (upd ((B257 18)) cs258 0)) 19 (upd ((B257 19)) cs258 (nI hd))), (cs258 + 1), as259, wt260, wf261, vr, hd, dp, Ag348, sl, rg, gr, ls9, Q9, pd, xb, xc)), rfl, ⟨rfl, hz354, hz355, hz356, hz357, hz358, hz359, hz360, hz361, hz362, hz363, hz364, hz365, hz366, hz367, hz368, hz369, hz370, hz371, hz372, hz373, hO⟩, by rw [ht99]; exact hP, hD, by rw [ht99]; exact hzz1, by rw [ht99]; exact hzz2⟩, hS.F ht99⟩) hS.2.2 dX0_statement_241
    by_cases h374 : kd = 25
    · subst h374
      refine lv_tableIn (tgt := 112) (off := 76) hx hb dX0_statement_36 (by decide) (by decide) (by decide) (by decide) ?_
      obtain ⟨q1, hc0, ht0, hw0⟩ := NdO.ch hnd (f := 0) (by decide) ((hnd.1.2.1 (by rw [hkd]; decide)).1)
      have hv0 : 1 ≤ g 0 q1 ∧ g 0 q1 + 1 ≤ n := ⟨hw0.1, (by have z := hw0.2; omega)⟩
      obtain ⟨q2, hc1, ht1, hw1⟩ := NdO.ch hnd (f := 1) (by decide) ((hnd.1.2.1 (by rw [hkd]; decide)).2)
      have hv1 : 1 ≤ g 0 q2 ∧ g 0 q2 + 1 ≤ n := ⟨hw1.1, (by have z := hw1.2; omega)⟩
      refine lv_aload_n hx hb dX0_statement_112 rfl (lv_at hl 2 rfl) ?_
      refine lv_aload_n hx hb dX0_statement_113 rfl (lv_at hl 1 rfl) ?_
      have htl375 : tlE g q = rE (g 2 q) - rS (g 2 q) := rfl
      have hO : OKP G h0 a (upd (upd (upd (upd (upd (upd (upd (upd (upd (upd (upd (upd (upd (upd (upd (upd (upd F 2 (nI sz)) 5 (nI cs)) 6 (nI rg)) 7 (nI hd)) 8 (nI dp)) 12 (nI vr)) 13 as9) 16 ls9) 5 (nI cs2)) 2 (nI sz)) 5 (nI cs2)) 6 (nI rg)) 7 (nI hd)) 8 (nI dp)) 12 (nI vr)) 13 as9) 16 ls9) (updR (updR (updR (updR (updR (updR R 2 (.ref pq)) 3 (.ref mq)) 4 (va_rf lp9)) 2 (.ref pq)) 3 (.ref mq)) 4 (va_rf lp9)) Z B2 J K w := hO.to rfl
      obtain ⟨_, qr379, hqr380⟩ := hO.2.1 24 _ (sg_24 G h0 a _ _ _ _ _)
      refine pn_V0 (G := G) (As := [.ref q]) (rest := []) hx hb hml hown hq hE hX pX0_al hP hD hS hA hl.1 (Y_if l G h0 a (upd (upd (upd (upd (upd (upd (upd (upd (upd F 2 (nI sz)) 5 (nI cs)) 6 (nI rg)) 7 (nI hd)) 8 (nI dp)) 12 (nI vr)) 13 as9) 16 ls9) 5 (nI cs2)) (updR (updR (updR R 2 (.ref pq)) 3 (.ref mq)) 4 (va_rf lp9)) Z B2 J K w pq dr ml nd nm cp it s9 q mq cs2 vr sz n q1 q2 hd dp rg ls9 lp9 g rk pb A2 Q9 pd sl m9 lw c0 rt gr as9 hdL slL xb xc rL (by omega) (BdE.wp BdE.rfl hwp) (BdE.pt BdE.rfl hwp hps) (BdE.rko BdE.rfl hrk) (by omega) (by omega) hng2 hmq hqT hqL hrt hrv (by omega) (by omega) (by omega) (LpO.be BdE.rfl hlo) (EkA.be BdE.rfl (hbr2 7 (by decide)) (hbr2 11 (by decide)) hek) (OwC.be BdE.rfl hmq hdr0 hcO) (NaB.be BdE.rfl BeF.rfl hwp hps.2.1 hdr0 (hbr2 11 (by decide)) hna) hen2 hao hst2.1 (by omega) (by omega) (by omega) (SkA.be BdE.rfl (hbr2 11 (by decide)) hsk) hlp2 hrq2 (fun z9 => hrL (hst2.2.2.2.2.2.1 z9)) hlr hc0 ht0 hv0 hc1 ht1 hv1 hkd ist hO hl0) (gV pw_324 pw_325 pw_326 pw_63 pw_310) hV_X0_ifStatement qr379 0 hqr380 rfl rfl rfl (Nat.le_of_ble_eq_true rfl) dX0_statement_114 ⟨(by show 0 + ((rE (g 2 q) - rS (g 2 q)) + 1) ≤ ((rE (g 2 q) - rS (g 2 q)) + 1); omega), (by show 0 + (6 * (rE (g 2 q) - rS (g 2 q)) + 6) ≤ (6 * (rE (g 2 q) - rS (g 2 q)) + 6); omega)⟩ ⟨(by show (5 * n + 46) + 1 ≤ (5 * n + 50); omega), (by show 8 + (6 + 11) + (200 * n + 1120) ≤ (200 * n + 1200); omega)⟩ (fun v378 u376 H locs hw377 hP hD hS => ?_) (fun ux ce9 q9 H9 locs9 hux hP9 hD9 hS9 hce hcv hcl => pb_out ux (ThQ.up (Thx.same (Thx.same (Thx.same (Thx.same (Thx.same (Thx.same (Thx.same (Thx.same (Thx.f (Bth.thx hbb2) (by omega)) rfl) rfl) rfl) rfl) rfl) rfl) rfl) rfl) (show RhX (updR (updR (updR R 2 (.ref pq)) 3 (.ref mq)) 4 (va_rf lp9)) (updR (updR (updR (updR (updR (updR R 2 (.ref pq)) 3 (.ref mq)) 4 (va_rf lp9)) 2 (.ref pq)) 3 (.ref mq)) 4 (va_rf lp9)) from fun k9 hk9 => by unfold updR; simp only [show ¬ k9 = 1 by omega, show ¬ k9 = 2 by omega, show ¬ k9 = 3 by omega, show ¬ k9 = 4 by omega, if_false]) hux) hnt hlocks hce hcv hcl hP9 hD9 hS9 (by show 0 + ((rE (g 2 q) - rS (g 2 q)) + 1) ≤ ((rE (g 2 q) - rS (g 2 q)) + 1); omega) (by show 0 + (6 * (rE (g 2 q) - rS (g 2 q)) + 6) ≤ (6 * (rE (g 2 q) - rS (g 2 q)) + 6); omega))
      obtain ⟨w, K381, B382, cs383, as384, wt385, wf386, dp387, Ag388, rg389, gr390, ls391, Q392, pd393, xb394, xc395⟩ := u376
      obtain ⟨hw377, h396, h397, h398, h399, h400, h401, h402, h403, h404, h405, h406, h407, h408, h409, h410, h411, h412, hO⟩ := hw377
      have h396 : SmW B2 B382 cs2 := h396
      have h397 : BdE K K381 := h397
      have h398 : BeF K K381 := h398
      have h399 : BeL K K381 lp9 := h399
      have h400 : Bth B2 B382 := h400
      have h401 : BtR B2 B382 := h401
      have h402 : cs2 ≤ cs383 ∧ cs383 + 1 ≤ cs2 + 2 * tlE g q := h402
      have h403 : dp ≤ dp387 ∧ dp387 ≤ 71 := h403
      have h404 : AsO as384 := h404
      have h405 : VrS B2 B382 vr := h405
      have h406 : gr ≤ gr390 ∧ rg389 ≤ 625 ∧ rg389 ≤ gr390 ∧ (rg389 = 625 ∨ rg389 = gr390) := h406
      have h407 : EnV (B382 26) (B382 27) nd vr hd c0 sl := h407
      have h408 : StW pb.1 pb.2.1 pb.2.2.1 pb.2.2.2 A2 Ag388 Q9 Q392 pd pd393 m9 dp387 lw cs2 cs383 as9 as384 hd hd sl sl gr gr390 (B382 16) (B382 17) (B382 18) (B382 19) [] := h408
      have h409 : LpS K381 (B382 16) (B382 17) Ag388 pd393 lp9 lw cs383 hd sl hdL slL xb394 xc395 := h409
      have h410 : PdS pd pd393 xb xb394 xc xc395 [] cs2 cs383 := h410
      have h411 : RgQx B382 Q392 gr390 nd := h411
      have h412 : LpR K381 lp9 rL := h412
      obtain rfl : v378 = none := hw377
      have hf413 : K381.1 pq = 7 := (BdE.T h397 hp1 (by decide))
      have hf414 : K381.2.2.1 18 pq = some (a 1) := (BdE.C h397 (by rw [hp1]; decide) 18).trans hp2
      have hf415 : K381.2.2.1 14 pq = some dr := (BdE.C h397 (by rw [hp1]; decide) 14).trans hp3
      have hf416 : K381.1 dr = 8 := (BdE.T h397 hp4 (by decide))
      have hf417 : K381.2.2.1 15 pq = some ml := (BdE.C h397 (by rw [hp1]; decide) 15).trans hp5
      have hf418 : K381.1 ml = 5 := (BdE.T h397 hp6 (by decide))
      have hf419 : K381.2.1 24 pq = (nI nd) := (BdE.I h397 (by rw [hp1]; decide) (by decide) (by decide)).trans hp8
      have hf420 : K381.1 q = 1 := (BdE.T h397 hqT (by decide))
      have hf421 : K381.1 mq = 3 := (BdE.T h397 hmq (by decide))
      have hf422 : K381.2.1 10 mq = (nI rt) := (BdE.I h397 (by rw [hmq]; decide) (by decide) (by decide)).trans hrt
      have hf423 : K381.2.1 0 q = 25 := (BdE.I h397 (by rw [hqT]; decide) (by decide) (by decide)).trans hkd
      have hf424 : K381.2.2.1 0 q = some q1 := (BdE.C h397 (by rw [hqT]; decide) 0).trans hc0
      have hf425 : K381.1 q1 = 1 := (BdE.T h397 ht0 (by decide))
      have hf426 : K381.2.2.1 1 q = some q2 := (BdE.C h397 (by rw [hqT]; decide) 1).trans hc1
      have hf427 : K381.1 q2 = 1 := (BdE.T h397 ht1 (by decide))
      have hO : OKP G h0 a (upd (upd (upd (upd (upd (upd (upd (upd (upd (upd F 2 (nI sz)) 5 (nI cs383)) 6 (nI rg389)) 7 (nI hd)) 8 (nI dp387)) 12 (nI vr)) 13 as384) 14 wt385) 15 wf386) 16 ls391) (updR (updR (updR R 2 (.ref pq)) 3 (.ref mq)) 4 (va_rf lp9)) Z B382 J K381 w := hO.to rfl
      refine W.widen (k := (rE (g 2 q) - rS (g 2 q))) (n := (6 * (rE (g 2 q) - rS (g 2 q)))) (by show 0 + (rE (g 2 q) - rS (g 2 q)) ≤ (rE (g 2 q) - rS (g 2 q)); omega) (by show 0 + (6 * (rE (g 2 q) - rS (g 2 q))) ≤ (6 * (rE (g 2 q) - rS (g 2 q))); omega) ?_
      refine W.eq (g2 := F0 m 117 ls []) rfl ?_
      have hbe428 := BdE.trans BdE.rfl h397
      have hbb429 : Bth B B382 := Bth.trans (show Thx (upd (upd (upd (upd (upd (upd (upd (upd F 2 (nI sz)) 5 (nI cs)) 6 (nI rg)) 7 (nI hd)) 8 (nI dp)) 12 (nI vr)) 13 as9) 16 ls9) (upd (upd (upd (upd (upd (upd (upd (upd (upd F 2 (nI sz)) 5 (nI cs)) 6 (nI rg)) 7 (nI hd)) 8 (nI dp)) 12 (nI vr)) 13 as9) 16 ls9) 5 (nI cs2)) B B2 from (Thx.f (Bth.thx hbb2) (by omega))).2 h400
      have hng430 : Nng (B382 18) := h400.2 hng2
      have hsw431 : ∀ x9 : Nat, x9 < cs → (B382 16) x9 = B 16 x9 := fun x9 hx9 => ((h396 x9 (by omega)).1).trans ((fun x9 hx9 => (hsw2 x9 hx9).1) x9 hx9)
      have hsw432 : ∀ x9 : Nat, x9 < cs → (B382 17) x9 = B 17 x9 := fun x9 hx9 => ((h396 x9 (by omega)).2.1).trans ((fun x9 hx9 => (hsw2 x9 hx9).2.1) x9 hx9)
      have hsw433 : ∀ x9 : Nat, x9 < cs → (B382 18) x9 = B 18 x9 := fun x9 hx9 => ((h396 x9 (by omega)).2.2.1).trans ((fun x9 hx9 => (hsw2 x9 hx9).2.2.1) x9 hx9)
      have hsw434 : ∀ x9 : Nat, x9 < cs → (B382 19) x9 = B 19 x9 := fun x9 hx9 => ((h396 x9 (by omega)).2.2.2).trans ((fun x9 hx9 => (hsw2 x9 hx9).2.2.2) x9 hx9)
      have hbf435 := BeF.trans BeF.rfl h398 BdE.rfl
      have hbl437 : BeL K K381 lp9 := BeL.trans BeL.rfl h399 BdE.rfl
      have hbr436 : BtR B B382 := BtR.trans hbr2 h401
      have hvs438 : VrS B B382 vr := VrS.trans hvs2 h405 (by omega)
      have hst439 : StW pb.1 pb.2.1 pb.2.2.1 pb.2.2.2 Ag Ag388 Q9 Q392 pd pd393 m9 dp387 lw cs cs383 as9 as384 hd hd sl sl gr gr390 (B382 16) (B382 17) (B382 18) (B382 19) ([] : List Nat) := StW.seq hst2 (by omega) (fun x9 hx9 => ⟨(h396 x9 hx9).1, (h396 x9 hx9).2.1⟩) h408
      have hsn440 := hst439.1.2.2.2.1
      have hpd441 : PdS pd pd393 xb xb394 xc xc395 ([] : List Nat) cs cs383 := PdS.call (PdS.rfl (cs1 := cs2)) h410 (by omega) (by omega)
      refine lv_goto (tgt := 241) hx hb dX0_statement_117 (by decide) ?_
      refine W_size (fun hz1 hz2 => ?_)
      refine vx_ret ?_
      have hz442 : SmW B B382 cs := (fun x9 hx9 => ⟨hsw431 x9 hx9, hsw432 x9 hx9, hsw433 x9 hx9, hsw434 x9 hx9⟩)
      have hz443 : BdE K K381 := hbe428
      have hz444 : BeF K K381 := hbf435
      have hz445 : BeL K K381 lp9 := hbl437
      have hz446 : Bth B B382 := (show Thx (upd (upd (upd (upd (upd (upd (upd (upd F 2 (nI sz)) 5 (nI cs)) 6 (nI rg)) 7 (nI hd)) 8 (nI dp)) 12 (nI vr)) 13 as9) 16 ls9) (upd (upd (upd (upd (upd (upd (upd (upd (upd (upd (upd (upd (upd (upd (upd F 2 (nI sz)) 5 (nI cs)) 6 (nI rg)) 7 (nI hd)) 8 (nI dp)) 12 (nI vr)) 13 as9) 16 ls9) 5 (nI cs383)) 6 (nI rg389)) 8 (nI dp387)) 13 as384) 14 wt385) 15 wf386) 16 ls391) B B382 from (Thx.f (Thx.f (Thx.f (Thx.f (Thx.f (Thx.f (Thx.f (Bth.thx hbb429) (by omega)) (by omega)) (by omega)) (by omega)) (by omega)) (by omega)) (by omega))).2
      have hz447 : BtR B B382 := hbr436
      have hz448 : cs ≤ cs383 ∧ cs383 + 0 ≤ cs + 2 * tlE g q := (by omega)
      have hz449 : dp ≤ dp387 ∧ dp387 ≤ 71 := (by omega)
      have hz450 : vr ≤ vr ∧ vr ≤ 30 ∧ hd + vr = hd + vr := (by omega)
      have hz451 : AsO as384 := h404
      have hz452 : VrS B B382 vr := hvs438
      have hz453 : cs < cs383 ∨ (hd = hd ∧ sl = sl) := (Or.inr ⟨rfl, rfl⟩)
      have hz454 : ¬ K.2.1 0 q = 22 → hd = hd := (fun _ => rfl)
      have hz455 : gr ≤ gr390 ∧ rg389 ≤ 625 ∧ rg389 ≤ gr390 ∧ (rg389 = 625 ∨ rg389 = gr390) := (by omega)
      have hz456 : EnV (B382 26) (B382 27) nd vr hd c0 sl := h407
      have hz457 : StW pb.1 pb.2.1 pb.2.2.1 pb.2.2.2 Ag Ag388 Q9 Q392 pd pd393 m9 dp387 lw cs cs383 as9 as384 hd hd sl sl gr gr390 (B382 16) (B382 17) (B382 18) (B382 19) [] := hst439
      have hz458 : LpS K381 (B382 16) (B382 17) Ag388 pd393 lp9 lw cs383 hd sl hdL slL xb394 xc395 := h409
      have hz459 : PdS pd pd393 xb xb394 xc xc395 [] cs cs383 := hpd441
      have hz460 : RgQx B382 Q392 gr390 nd := h411
      have hz461 : LpR K381 lp9 rL := h412
      have hO : OKP G h0 a (upd (upd (upd (upd (upd (upd (upd (upd (upd (upd F 2 (nI sz)) 5 (nI cs383)) 6 (nI rg389)) 7 (nI hd)) 8 (nI dp387)) 12 (nI vr)) 13 as384) 14 wt385) 15 wf386) 16 ls391) (updR (updR (updR R 2 (.ref pq)) 3 (.ref mq)) 4 (va_rf lp9)) Z B382 J K381 w := hO.to rfl
      refine W.widen (k := ((rE (g 2 q) - rS (g 2 q)) + 1)) (n := (6 * (rE (g 2 q) - rS (g 2 q)) + 6)) (by omega) (by omega) ?_
      have hzz1 : H.size ≤ s.heap.size + ((rE (g 2 q) - rS (g 2 q))) := (by have z : (rE (g 2 q) - rS (g 2 q)) ≤ (rE (g 2 q) - rS (g 2 q)) := (by omega); omega)
      have hzz2 : hSl H ≤ hSl s.heap + ((6 * (rE (g 2 q) - rS (g 2 q)))) := (by have z : (6 * (rE (g 2 q) - rS (g 2 q))) ≤ (6 * (rE (g 2 q) - rS (g 2 q))) := (by omega); omega)
      exact W.vret hx hb hr (fun t99 ht99 hW99 => ⟨⟨_, (w, (K381, B382, cs383, as384, wt385, wf386, vr, hd, dp387, Ag388, sl, rg389, gr390, ls391, Q392, pd393, xb394, xc395)), rfl, ⟨rfl, hz442, hz443, hz444, hz445, hz446, hz447, hz448, hz449, hz450, hz451, hz452, hz453, hz454, hz455, hz456, hz457, hz458, hz459, hz460, hz461, hO⟩, by rw [ht99]; exact hP, hD, by rw [ht99]; exact hzz1, by rw [ht99]; exact hzz2⟩, hS.F ht99⟩) hS.2.2 dX0_statement_241
    by_cases h462 : kd = 26
    · subst h462
      refine lv_tableIn (tgt := 120) (off := 84) hx hb dX0_statement_36 (by decide) (by decide) (by decide) (by decide) ?_
      obtain ⟨q4, hc3, ht3, hw3⟩ := NdO.ch hnd (f := 3) (by decide) ((hnd.1.2.2.2.1 hkd).2)
      have hv3 : 1 ≤ g 0 q4 ∧ g 0 q4 + 1 ≤ n := ⟨hw3.1, (by have z := hw3.2; omega)⟩
      refine lv_aload_n hx hb dX0_statement_120 rfl (lv_at hl 2 rfl) ?_
      refine lv_aload_n hx hb dX0_statement_121 rfl (lv_at hl 1 rfl) ?_
      have htl463 : tlE g q = rE (g 2 q) - rS (g 2 q) := rfl
      have hO : OKP G h0 a (upd (upd (upd (upd (upd (upd (upd (upd (upd (upd (upd (upd (upd (upd (upd (upd (upd F 2 (nI sz)) 5 (nI cs)) 6 (nI rg)) 7 (nI hd)) 8 (nI dp)) 12 (nI vr)) 13 as9) 16 ls9) 5 (nI cs2)) 2 (nI sz)) 5 (nI cs2)) 6 (nI rg)) 7 (nI hd)) 8 (nI dp)) 12 (nI vr)) 13 as9) 16 ls9) (updR (updR (updR (updR (updR (updR R 2 (.ref pq)) 3 (.ref mq)) 4 (va_rf lp9)) 2 (.ref pq)) 3 (.ref mq)) 4 (va_rf lp9)) Z B2 J K w := hO.to rfl
      obtain ⟨_, qr467, hqr468⟩ := hO.2.1 24 _ (sg_24 G h0 a _ _ _ _ _)
      refine pn_V0 (G := G) (As := [.ref q]) (rest := []) hx hb hml hown hq hE hX pX0_al hP hD hS hA hl.1 (Y_loop l G h0 a (upd (upd (upd (upd (upd (upd (upd (upd (upd F 2 (nI sz)) 5 (nI cs)) 6 (nI rg)) 7 (nI hd)) 8 (nI dp)) 12 (nI vr)) 13 as9) 16 ls9) 5 (nI cs2)) (updR (updR (updR R 2 (.ref pq)) 3 (.ref mq)) 4 (va_rf lp9)) Z B2 J K w pq dr ml nd nm cp it s9 q mq cs2 vr sz n q4 hd dp rg ls9 lp9 g rk pb A2 Q9 pd sl m9 lw c0 rt gr as9 hdL slL xb xc rL (by omega) (BdE.wp BdE.rfl hwp) (BdE.pt BdE.rfl hwp hps) (BdE.rko BdE.rfl hrk) (by omega) (by omega) hng2 hmq hqT hqL hrt hrv (by omega) (by omega) (by omega) (LpO.be BdE.rfl hlo) (EkA.be BdE.rfl (hbr2 7 (by decide)) (hbr2 11 (by decide)) hek) (OwC.be BdE.rfl hmq hdr0 hcO) (NaB.be BdE.rfl BeF.rfl hwp hps.2.1 hdr0 (hbr2 11 (by decide)) hna) hen2 hao hst2.1 (by omega) (by omega) (by omega) (SkA.be BdE.rfl (hbr2 11 (by decide)) hsk) hlp2 hrq2 (fun z9 => hrL (hst2.2.2.2.2.2.1 z9)) hlr hc3 ht3 hv3 (Or.inl hkd) ist hO hl0) (gV pw_327 pw_328 pw_329 pw_63 pw_312) hV_X0_loopStatement qr467 0 hqr468 rfl rfl rfl (Nat.le_of_ble_eq_true rfl) dX0_statement_122 ⟨(by show 0 + ((rE (g 2 q) - rS (g 2 q)) + 1) ≤ ((rE (g 2 q) - rS (g 2 q)) + 1); omega), (by show 0 + (6 * (rE (g 2 q) - rS (g 2 q)) + 6) ≤ (6 * (rE (g 2 q) - rS (g 2 q)) + 6); omega)⟩ ⟨(by show (5 * n + 46) + 1 ≤ (5 * n + 50); omega), (by show 8 + (7 + 11) + (200 * n + 1120) ≤ (200 * n + 1200); omega)⟩ (fun v466 u464 H locs hw465 hP hD hS => ?_) (fun ux ce9 q9 H9 locs9 hux hP9 hD9 hS9 hce hcv hcl => pb_out ux (ThQ.up (Thx.same (Thx.same (Thx.same (Thx.same (Thx.same (Thx.same (Thx.same (Thx.same (Thx.f (Bth.thx hbb2) (by omega)) rfl) rfl) rfl) rfl) rfl) rfl) rfl) rfl) (show RhX (updR (updR (updR R 2 (.ref pq)) 3 (.ref mq)) 4 (va_rf lp9)) (updR (updR (updR (updR (updR (updR R 2 (.ref pq)) 3 (.ref mq)) 4 (va_rf lp9)) 2 (.ref pq)) 3 (.ref mq)) 4 (va_rf lp9)) from fun k9 hk9 => by unfold updR; simp only [show ¬ k9 = 1 by omega, show ¬ k9 = 2 by omega, show ¬ k9 = 3 by omega, show ¬ k9 = 4 by omega, if_false]) hux) hnt hlocks hce hcv hcl hP9 hD9 hS9 (by show 0 + ((rE (g 2 q) - rS (g 2 q)) + 1) ≤ ((rE (g 2 q) - rS (g 2 q)) + 1); omega) (by show 0 + (6 * (rE (g 2 q) - rS (g 2 q)) + 6) ≤ (6 * (rE (g 2 q) - rS (g 2 q)) + 6); omega))
      obtain ⟨w, K469, B470, cs471, as472, wt473, wf474, dp475, Ag476, rg477, gr478, ls479, Q480, pd481, xb482, xc483⟩ := u464
      obtain ⟨hw465, h484, h485, h486, h487, h488, h489, h490, h491, h492, h493, h494, h495, h496, h497, h498, h499, h500, hO⟩ := hw465
      have h484 : SmW B2 B470 cs2 := h484
      have h485 : BdE K K469 := h485
      have h486 : BeF K K469 := h486
      have h487 : BeL K K469 lp9 := h487
      have h488 : Bth B2 B470 := h488
      have h489 : BtR B2 B470 := h489
      have h490 : cs2 ≤ cs471 ∧ cs471 + 1 ≤ cs2 + 2 * tlE g q := h490
      have h491 : dp ≤ dp475 ∧ dp475 ≤ 71 := h491
      have h492 : AsO as472 := h492
      have h493 : VrS B2 B470 vr := h493
      have h494 : gr ≤ gr478 ∧ rg477 ≤ 625 ∧ rg477 ≤ gr478 ∧ (rg477 = 625 ∨ rg477 = gr478) := h494
      have h495 : EnV (B470 26) (B470 27) nd vr hd c0 sl := h495
      have h496 : StW pb.1 pb.2.1 pb.2.2.1 pb.2.2.2 A2 Ag476 Q9 Q480 pd pd481 m9 dp475 lw cs2 cs471 as9 as472 hd hd sl sl gr gr478 (B470 16) (B470 17) (B470 18) (B470 19) [] := h496
      have h497 : LpS K469 (B470 16) (B470 17) Ag476 pd481 lp9 lw cs471 hd sl hdL slL xb482 xc483 := h497
      have h498 : PdS pd pd481 xb xb482 xc xc483 [] cs2 cs471 := h498
      have h499 : RgQx B470 Q480 gr478 nd := h499
      have h500 : LpR K469 lp9 rL := h500
      obtain rfl : v466 = none := hw465
      have hf501 : K469.1 pq = 7 := (BdE.T h485 hp1 (by decide))
      have hf502 : K469.2.2.1 18 pq = some (a 1) := (BdE.C h485 (by rw [hp1]; decide) 18).trans hp2
      have hf503 : K469.2.2.1 14 pq = some dr := (BdE.C h485 (by rw [hp1]; decide) 14).trans hp3
      have hf504 : K469.1 dr = 8 := (BdE.T h485 hp4 (by decide))
      have hf505 : K469.2.2.1 15 pq = some ml := (BdE.C h485 (by rw [hp1]; decide) 15).trans hp5
      have hf506 : K469.1 ml = 5 := (BdE.T h485 hp6 (by decide))
      have hf507 : K469.2.1 24 pq = (nI nd) := (BdE.I h485 (by rw [hp1]; decide) (by decide) (by decide)).trans hp8
      have hf508 : K469.1 q = 1 := (BdE.T h485 hqT (by decide))
      have hf509 : K469.1 mq = 3 := (BdE.T h485 hmq (by decide))
      have hf510 : K469.2.1 10 mq = (nI rt) := (BdE.I h485 (by rw [hmq]; decide) (by decide) (by decide)).trans hrt
      have hf511 : K469.2.1 0 q = 26 := (BdE.I h485 (by rw [hqT]; decide) (by decide) (by decide)).trans hkd
      have hf512 : K469.2.2.1 3 q = some q4 := (BdE.C h485 (by rw [hqT]; decide) 3).trans hc3
      have hf513 : K469.1 q4 = 1 := (BdE.T h485 ht3 (by decide))
      have hO : OKP G h0 a (upd (upd (upd (upd (upd (upd (upd (upd (upd (upd F 2 (nI sz)) 5 (nI cs471)) 6 (nI rg477)) 7 (nI hd)) 8 (nI dp475)) 12 (nI vr)) 13 as472) 14 wt473) 15 wf474) 16 ls479) (updR (updR (updR R 2 (.ref pq)) 3 (.ref mq)) 4 (va_rf lp9)) Z B470 J K469 w := hO.to rfl
      refine W.widen (k := (rE (g 2 q) - rS (g 2 q))) (n := (6 * (rE (g 2 q) - rS (g 2 q)))) (by show 0 + (rE (g 2 q) - rS (g 2 q)) ≤ (rE (g 2 q) - rS (g 2 q)); omega) (by show 0 + (6 * (rE (g 2 q) - rS (g 2 q))) ≤ (6 * (rE (g 2 q) - rS (g 2 q))); omega) ?_
      refine W.eq (g2 := F0 m 125 ls []) rfl ?_
      have hbe514 := BdE.trans BdE.rfl h485
      have hbb515 : Bth B B470 := Bth.trans (show Thx (upd (upd (upd (upd (upd (upd (upd (upd F 2 (nI sz)) 5 (nI cs)) 6 (nI rg)) 7 (nI hd)) 8 (nI dp)) 12 (nI vr)) 13 as9) 16 ls9) (upd (upd (upd (upd (upd (upd (upd (upd (upd F 2 (nI sz)) 5 (nI cs)) 6 (nI rg)) 7 (nI hd)) 8 (nI dp)) 12 (nI vr)) 13 as9) 16 ls9) 5 (nI cs2)) B B2 from (Thx.f (Bth.thx hbb2) (by omega))).2 h488
      have hng516 : Nng (B470 18) := h488.2 hng2
      have hsw517 : ∀ x9 : Nat, x9 < cs → (B470 16) x9 = B 16 x9 := fun x9 hx9 => ((h484 x9 (by omega)).1).trans ((fun x9 hx9 => (hsw2 x9 hx9).1) x9 hx9)
      have hsw518 : ∀ x9 : Nat, x9 < cs → (B470 17) x9 = B 17 x9 := fun x9 hx9 => ((h484 x9 (by omega)).2.1).trans ((fun x9 hx9 => (hsw2 x9 hx9).2.1) x9 hx9)
      have hsw519 : ∀ x9 : Nat, x9 < cs → (B470 18) x9 = B 18 x9 := fun x9 hx9 => ((h484 x9 (by omega)).2.2.1).trans ((fun x9 hx9 => (hsw2 x9 hx9).2.2.1) x9 hx9)
      have hsw520 : ∀ x9 : Nat, x9 < cs → (B470 19) x9 = B 19 x9 := fun x9 hx9 => ((h484 x9 (by omega)).2.2.2).trans ((fun x9 hx9 => (hsw2 x9 hx9).2.2.2) x9 hx9)
      have hbf521 := BeF.trans BeF.rfl h486 BdE.rfl
      have hbl523 : BeL K K469 lp9 := BeL.trans BeL.rfl h487 BdE.rfl
      have hbr522 : BtR B B470 := BtR.trans hbr2 h489
      have hvs524 : VrS B B470 vr := VrS.trans hvs2 h493 (by omega)
      have hst525 : StW pb.1 pb.2.1 pb.2.2.1 pb.2.2.2 Ag Ag476 Q9 Q480 pd pd481 m9 dp475 lw cs cs471 as9 as472 hd hd sl sl gr gr478 (B470 16) (B470 17) (B470 18) (B470 19) ([] : List Nat) := StW.seq hst2 (by omega) (fun x9 hx9 => ⟨(h484 x9 hx9).1, (h484 x9 hx9).2.1⟩) h496
      have hsn526 := hst525.1.2.2.2.1
      have hpd527 : PdS pd pd481 xb xb482 xc xc483 ([] : List Nat) cs cs471 := PdS.call (PdS.rfl (cs1 := cs2)) h498 (by omega) (by omega)
      refine lv_goto (tgt := 241) hx hb dX0_statement_125 (by decide) ?_
      refine W_size (fun hz1 hz2 => ?_)
      refine vx_ret ?_
      have hz528 : SmW B B470 cs := (fun x9 hx9 => ⟨hsw517 x9 hx9, hsw518 x9 hx9, hsw519 x9 hx9, hsw520 x9 hx9⟩)
      have hz529 : BdE K K469 := hbe514
      have hz530 : BeF K K469 := hbf521
      have hz531 : BeL K K469 lp9 := hbl523
      have hz532 : Bth B B470 := (show Thx (upd (upd (upd (upd (upd (upd (upd (upd F 2 (nI sz)) 5 (nI cs)) 6 (nI rg)) 7 (nI hd)) 8 (nI dp)) 12 (nI vr)) 13 as9) 16 ls9) (upd (upd (upd (upd (upd (upd (upd (upd (upd (upd (upd (upd (upd (upd (upd F 2 (nI sz)) 5 (nI cs)) 6 (nI rg)) 7 (nI hd)) 8 (nI dp)) 12 (nI vr)) 13 as9) 16 ls9) 5 (nI cs471)) 6 (nI rg477)) 8 (nI dp475)) 13 as472) 14 wt473) 15 wf474) 16 ls479) B B470 from (Thx.f (Thx.f (Thx.f (Thx.f (Thx.f (Thx.f (Thx.f (Bth.thx hbb515) (by omega)) (by omega)) (by omega)) (by omega)) (by omega)) (by omega)) (by omega))).2
      have hz533 : BtR B B470 := hbr522
      have hz534 : cs ≤ cs471 ∧ cs471 + 0 ≤ cs + 2 * tlE g q := (by omega)
      have hz535 : dp ≤ dp475 ∧ dp475 ≤ 71 := (by omega)
      have hz536 : vr ≤ vr ∧ vr ≤ 30 ∧ hd + vr = hd + vr := (by omega)
      have hz537 : AsO as472 := h492
      have hz538 : VrS B B470 vr := hvs524
      have hz539 : cs < cs471 ∨ (hd = hd ∧ sl = sl) := (Or.inr ⟨rfl, rfl⟩)
      have hz540 : ¬ K.2.1 0 q = 22 → hd = hd := (fun _ => rfl)
      have hz541 : gr ≤ gr478 ∧ rg477 ≤ 625 ∧ rg477 ≤ gr478 ∧ (rg477 = 625 ∨ rg477 = gr478) := (by omega)
      have hz542 : EnV (B470 26) (B470 27) nd vr hd c0 sl := h495
      have hz543 : StW pb.1 pb.2.1 pb.2.2.1 pb.2.2.2 Ag Ag476 Q9 Q480 pd pd481 m9 dp475 lw cs cs471 as9 as472 hd hd sl sl gr gr478 (B470 16) (B470 17) (B470 18) (B470 19) [] := hst525
      have hz544 : LpS K469 (B470 16) (B470 17) Ag476 pd481 lp9 lw cs471 hd sl hdL slL xb482 xc483 := h497
      have hz545 : PdS pd pd481 xb xb482 xc xc483 [] cs cs471 := hpd527
      have hz546 : RgQx B470 Q480 gr478 nd := h499
      have hz547 : LpR K469 lp9 rL := h500
      have hO : OKP G h0 a (upd (upd (upd (upd (upd (upd (upd (upd (upd (upd F 2 (nI sz)) 5 (nI cs471)) 6 (nI rg477)) 7 (nI hd)) 8 (nI dp475)) 12 (nI vr)) 13 as472) 14 wt473) 15 wf474) 16 ls479) (updR (updR (updR R 2 (.ref pq)) 3 (.ref mq)) 4 (va_rf lp9)) Z B470 J K469 w := hO.to rfl
      refine W.widen (k := ((rE (g 2 q) - rS (g 2 q)) + 1)) (n := (6 * (rE (g 2 q) - rS (g 2 q)) + 6)) (by omega) (by omega) ?_
      have hzz1 : H.size ≤ s.heap.size + ((rE (g 2 q) - rS (g 2 q))) := (by have z : (rE (g 2 q) - rS (g 2 q)) ≤ (rE (g 2 q) - rS (g 2 q)) := (by omega); omega)
      have hzz2 : hSl H ≤ hSl s.heap + ((6 * (rE (g 2 q) - rS (g 2 q)))) := (by have z : (6 * (rE (g 2 q) - rS (g 2 q))) ≤ (6 * (rE (g 2 q) - rS (g 2 q))) := (by omega); omega)
      exact W.vret hx hb hr (fun t99 ht99 hW99 => ⟨⟨_, (w, (K469, B470, cs471, as472, wt473, wf474, vr, hd, dp475, Ag476, sl, rg477, gr478, ls479, Q480, pd481, xb482, xc483)), rfl, ⟨rfl, hz528, hz529, hz530, hz531, hz532, hz533, hz534, hz535, hz536, hz537, hz538, hz539, hz540, hz541, hz542, hz543, hz544, hz545, hz546, hz547, hO⟩, by rw [ht99]; exact hP, hD, by rw [ht99]; exact hzz1, by rw [ht99]; exact hzz2⟩, hS.F ht99⟩) hS.2.2 dX0_statement_241
    by_cases h548 : kd = 27
    · subst h548
      refine lv_tableIn (tgt := 120) (off := 84) hx hb dX0_statement_36 (by decide) (by decide) (by decide) (by decide) ?_
      obtain ⟨q4, hc3, ht3, hw3⟩ := NdO.ch hnd (f := 3) (by decide) (hnd.1.2.2.2.2 hkd)
      have hv3 : 1 ≤ g 0 q4 ∧ g 0 q4 + 1 ≤ n := ⟨hw3.1, (by have z := hw3.2; omega)⟩
      refine lv_aload_n hx hb dX0_statement_120 rfl (lv_at hl 2 rfl) ?_
      refine lv_aload_n hx hb dX0_statement_121 rfl (lv_at hl 1 rfl) ?_
      have htl549 : tlE g q = rE (g 2 q) - rS (g 2 q) := rfl
      have hO : OKP G h0 a (upd (upd (upd (upd (upd (upd (upd (upd (upd (upd (upd (upd (upd (upd (upd (upd (upd F 2 (nI sz)) 5 (nI cs)) 6 (nI rg)) 7 (nI hd)) 8 (nI dp)) 12 (nI vr)) 13 as9) 16 ls9) 5 (nI cs2)) 2 (nI sz)) 5 (nI cs2)) 6 (nI rg)) 7 (nI hd)) 8 (nI dp)) 12 (nI vr)) 13 as9) 16 ls9) (updR (updR (updR (updR (updR (updR R 2 (.ref pq)) 3 (.ref mq)) 4 (va_rf lp9)) 2 (.ref pq)) 3 (.ref mq)) 4 (va_rf lp9)) Z B2 J K w := hO.to rfl
      obtain ⟨_, qr553, hqr554⟩ := hO.2.1 24 _ (sg_24 G h0 a _ _ _ _ _)
      refine pn_V0 (G := G) (As := [.ref q]) (rest := []) hx hb hml hown hq hE hX pX0_al hP hD hS hA hl.1 (Y_loop l G h0 a (upd (upd (upd (upd (upd (upd (upd (upd (upd F 2 (nI sz)) 5 (nI cs)) 6 (nI rg)) 7 (nI hd)) 8 (nI dp)) 12 (nI vr)) 13 as9) 16 ls9) 5 (nI cs2)) (updR (updR (updR R 2 (.ref pq)) 3 (.ref mq)) 4 (va_rf lp9)) Z B2 J K w pq dr ml nd nm cp it s9 q mq cs2 vr sz n q4 hd dp rg ls9 lp9 g rk pb A2 Q9 pd sl m9 lw c0 rt gr as9 hdL slL xb xc rL (by omega) (BdE.wp BdE.rfl hwp) (BdE.pt BdE.rfl hwp hps) (BdE.rko BdE.rfl hrk) (by omega) (by omega) hng2 hmq hqT hqL hrt hrv (by omega) (by omega) (by omega) (LpO.be BdE.rfl hlo) (EkA.be BdE.rfl (hbr2 7 (by decide)) (hbr2 11 (by decide)) hek) (OwC.be BdE.rfl hmq hdr0 hcO) (NaB.be BdE.rfl BeF.rfl hwp hps.2.1 hdr0 (hbr2 11 (by decide)) hna) hen2 hao hst2.1 (by omega) (by omega) (by omega) (SkA.be BdE.rfl (hbr2 11 (by decide)) hsk) hlp2 hrq2 (fun z9 => hrL (hst2.2.2.2.2.2.1 z9)) hlr hc3 ht3 hv3 (Or.inr hkd) ist hO hl0) (gV pw_327 pw_328 pw_329 pw_63 pw_312) hV_X0_loopStatement qr553 0 hqr554 rfl rfl rfl (Nat.le_of_ble_eq_true rfl) dX0_statement_122 ⟨(by show 0 + ((rE (g 2 q) - rS (g 2 q)) + 1) ≤ ((rE (g 2 q) - rS (g 2 q)) + 1); omega), (by show 0 + (6 * (rE (g 2 q) - rS (g 2 q)) + 6) ≤ (6 * (rE (g 2 q) - rS (g 2 q)) + 6); omega)⟩ ⟨(by show (5 * n + 46) + 1 ≤ (5 * n + 50); omega), (by show 8 + (7 + 11) + (200 * n + 1120) ≤ (200 * n + 1200); omega)⟩ (fun v552 u550 H locs hw551 hP hD hS => ?_) (fun ux ce9 q9 H9 locs9 hux hP9 hD9 hS9 hce hcv hcl => pb_out ux (ThQ.up (Thx.same (Thx.same (Thx.same (Thx.same (Thx.same (Thx.same (Thx.same (Thx.same (Thx.f (Bth.thx hbb2) (by omega)) rfl) rfl) rfl) rfl) rfl) rfl) rfl) rfl) (show RhX (updR (updR (updR R 2 (.ref pq)) 3 (.ref mq)) 4 (va_rf lp9)) (updR (updR (updR (updR (updR (updR R 2 (.ref pq)) 3 (.ref mq)) 4 (va_rf lp9)) 2 (.ref pq)) 3 (.ref mq)) 4 (va_rf lp9)) from fun k9 hk9 => by unfold updR; simp only [show ¬ k9 = 1 by omega, show ¬ k9 = 2 by omega, show ¬ k9 = 3 by omega, show ¬ k9 = 4 by omega, if_false]) hux) hnt hlocks hce hcv hcl hP9 hD9 hS9 (by show 0 + ((rE (g 2 q) - rS (g 2 q)) + 1) ≤ ((rE (g 2 q) - rS (g 2 q)) + 1); omega) (by show 0 + (6 * (rE (g 2 q) - rS (g 2 q)) + 6) ≤ (6 * (rE (g 2 q) - rS (g 2 q)) + 6); omega))
      obtain ⟨w, K555, B556, cs557, as558, wt559, wf560, dp561, Ag562, rg563, gr564, ls565, Q566, pd567, xb568, xc569⟩ := u550
      obtain ⟨hw551, h570, h571, h572, h573, h574, h575, h576, h577, h578, h579, h580, h581, h582, h583, h584, h585, h586, hO⟩ := hw551
      have h570 : SmW B2 B556 cs2 := h570
      have h571 : BdE K K555 := h571
      have h572 : BeF K K555 := h572
      have h573 : BeL K K555 lp9 := h573
      have h574 : Bth B2 B556 := h574
      have h575 : BtR B2 B556 := h575
      have h576 : cs2 ≤ cs557 ∧ cs557 + 1 ≤ cs2 + 2 * tlE g q := h576
      have h577 : dp ≤ dp561 ∧ dp561 ≤ 71 := h577
      have h578 : AsO as558 := h578
      have h579 : VrS B2 B556 vr := h579
      have h580 : gr ≤ gr564 ∧ rg563 ≤ 625 ∧ rg563 ≤ gr564 ∧ (rg563 = 625 ∨ rg563 = gr564) := h580
      have h581 : EnV (B556 26) (B556 27) nd vr hd c0 sl := h581
      have h582 : StW pb.1 pb.2.1 pb.2.2.1 pb.2.2.2 A2 Ag562 Q9 Q566 pd pd567 m9 dp561 lw cs2 cs557 as9 as558 hd hd sl sl gr gr564 (B556 16) (B556 17) (B556 18) (B556 19) [] := h582
      have h583 : LpS K555 (B556 16) (B556 17) Ag562 pd567 lp9 lw cs557 hd sl hdL slL xb568 xc569 := h583
      have h584 : PdS pd pd567 xb xb568 xc xc569 [] cs2 cs557 := h584
      have h585 : RgQx B556 Q566 gr564 nd := h585
      have h586 : LpR K555 lp9 rL := h586
      obtain rfl : v552 = none := hw551
      have hf587 : K555.1 pq = 7 := (BdE.T h571 hp1 (by decide))
      have hf588 : K555.2.2.1 18 pq = some (a 1) := (BdE.C h571 (by rw [hp1]; decide) 18).trans hp2
      have hf589 : K555.2.2.1 14 pq = some dr := (BdE.C h571 (by rw [hp1]; decide) 14).trans hp3
      have hf590 : K555.1 dr = 8 := (BdE.T h571 hp4 (by decide))
      have hf591 : K555.2.2.1 15 pq = some ml := (BdE.C h571 (by rw [hp1]; decide) 15).trans hp5
      have hf592 : K555.1 ml = 5 := (BdE.T h571 hp6 (by decide))
      have hf593 : K555.2.1 24 pq = (nI nd) := (BdE.I h571 (by rw [hp1]; decide) (by decide) (by decide)).trans hp8
      have hf594 : K555.1 q = 1 := (BdE.T h571 hqT (by decide))
      have hf595 : K555.1 mq = 3 := (BdE.T h571 hmq (by decide))
      have hf596 : K555.2.1 10 mq = (nI rt) := (BdE.I h571 (by rw [hmq]; decide) (by decide) (by decide)).trans hrt
      have hf597 : K555.2.1 0 q = 27 := (BdE.I h571 (by rw [hqT]; decide) (by decide) (by decide)).trans hkd
      have hf598 : K555.2.2.1 3 q = some q4 := (BdE.C h571 (by rw [hqT]; decide) 3).trans hc3
      have hf599 : K555.1 q4 = 1 := (BdE.T h571 ht3 (by decide))
      have hO : OKP G h0 a (upd (upd (upd (upd (upd (upd (upd (upd (upd (upd F 2 (nI sz)) 5 (nI cs557)) 6 (nI rg563)) 7 (nI hd)) 8 (nI dp561)) 12 (nI vr)) 13 as558) 14 wt559) 15 wf560) 16 ls565) (updR (updR (updR R 2 (.ref pq)) 3 (.ref mq)) 4 (va_rf lp9)) Z B556 J K555 w := hO.to rfl
      refine W.widen (k := (rE (g 2 q) - rS (g 2 q))) (n := (6 * (rE (g 2 q) - rS (g 2 q)))) (by show 0 + (rE (g 2 q) - rS (g 2 q)) ≤ (rE (g 2 q) - rS (g 2 q)); omega) (by show 0 + (6 * (rE (g 2 q) - rS (g 2 q))) ≤ (6 * (rE (g 2 q) - rS (g 2 q))); omega) ?_
      refine W.eq (g2 := F0 m 125 ls []) rfl ?_
      have hbe600 := BdE.trans BdE.rfl h571
      have hbb601 : Bth B B556 := Bth.trans (show Thx (upd (upd (upd (upd (upd (upd (upd (upd F 2 (nI sz)) 5 (nI cs)) 6 (nI rg)) 7 (nI hd)) 8 (nI dp)) 12 (nI vr)) 13 as9) 16 ls9) (upd (upd (upd (upd (upd (upd (upd (upd (upd F 2 (nI sz)) 5 (nI cs)) 6 (nI rg)) 7 (nI hd)) 8 (nI dp)) 12 (nI vr)) 13 as9) 16 ls9) 5 (nI cs2)) B B2 from (Thx.f (Bth.thx hbb2) (by omega))).2 h574
      have hng602 : Nng (B556 18) := h574.2 hng2
      have hsw603 : ∀ x9 : Nat, x9 < cs → (B556 16) x9 = B 16 x9 := fun x9 hx9 => ((h570 x9 (by omega)).1).trans ((fun x9 hx9 => (hsw2 x9 hx9).1) x9 hx9)
      have hsw604 : ∀ x9 : Nat, x9 < cs → (B556 17) x9 = B 17 x9 := fun x9 hx9 => ((h570 x9 (by omega)).2.1).trans ((fun x9 hx9 => (hsw2 x9 hx9).2.1) x9 hx9)
      have hsw605 : ∀ x9 : Nat, x9 < cs → (B556 18) x9 = B 18 x9 := fun x9 hx9 => ((h570 x9 (by omega)).2.2.1).trans ((fun x9 hx9 => (hsw2 x9 hx9).2.2.1) x9 hx9)
      have hsw606 : ∀ x9 : Nat, x9 < cs → (B556 19) x9 = B 19 x9 := fun x9 hx9 => ((h570 x9 (by omega)).2.2.2).trans ((fun x9 hx9 => (hsw2 x9 hx9).2.2.2) x9 hx9)
      have hbf607 := BeF.trans BeF.rfl h572 BdE.rfl
      have hbl609 : BeL K K555 lp9 := BeL.trans BeL.rfl h573 BdE.rfl
      have hbr608 : BtR B B556 := BtR.trans hbr2 h575
      have hvs610 : VrS B B556 vr := VrS.trans hvs2 h579 (by omega)
      have hst611 : StW pb.1 pb.2.1 pb.2.2.1 pb.2.2.2 Ag Ag562 Q9 Q566 pd pd567 m9 dp561 lw cs cs557 as9 as558 hd hd sl sl gr gr564 (B556 16) (B556 17) (B556 18) (B556 19) ([] : List Nat) := StW.seq hst2 (by omega) (fun x9 hx9 => ⟨(h570 x9 hx9).1, (h570 x9 hx9).2.1⟩) h582
      have hsn612 := hst611.1.2.2.2.1
      have hpd613 : PdS pd pd567 xb xb568 xc xc569 ([] : List Nat) cs cs557 := PdS.call (PdS.rfl (cs1 := cs2)) h584 (by omega) (by omega)
      refine lv_goto (tgt := 241) hx hb dX0_statement_125 (by decide) ?_
      refine W_size (fun hz1 hz2 => ?_)
      refine vx_ret ?_
      have hz614 : SmW B B556 cs := (fun x9 hx9 => ⟨hsw603 x9 hx9, hsw604 x9 hx9, hsw605 x9 hx9, hsw606 x9 hx9⟩)
      have hz615 : BdE K K555 := hbe600
      have hz616 : BeF K K555 := hbf607
      have hz617 : BeL K K555 lp9 := hbl609
      have hz618 : Bth B B556 := (show Thx (upd (upd (upd (upd (upd (upd (upd (upd F 2 (nI sz)) 5 (nI cs)) 6 (nI rg)) 7 (nI hd)) 8 (nI dp)) 12 (nI vr)) 13 as9) 16 ls9) (upd (upd (upd (upd (upd (upd (upd (upd (upd (upd (upd (upd (upd (upd (upd F 2 (nI sz)) 5 (nI cs)) 6 (nI rg)) 7 (nI hd)) 8 (nI dp)) 12 (nI vr)) 13 as9) 16 ls9) 5 (nI cs557)) 6 (nI rg563)) 8 (nI dp561)) 13 as558) 14 wt559) 15 wf560) 16 ls565) B B556 from (Thx.f (Thx.f (Thx.f (Thx.f (Thx.f (Thx.f (Thx.f (Bth.thx hbb601) (by omega)) (by omega)) (by omega)) (by omega)) (by omega)) (by omega)) (by omega))).2
      have hz619 : BtR B B556 := hbr608
      have hz620 : cs ≤ cs557 ∧ cs557 + 0 ≤ cs + 2 * tlE g q := (by omega)
      have hz621 : dp ≤ dp561 ∧ dp561 ≤ 71 := (by omega)
      have hz622 : vr ≤ vr ∧ vr ≤ 30 ∧ hd + vr = hd + vr := (by omega)
      have hz623 : AsO as558 := h578
      have hz624 : VrS B B556 vr := hvs610
      have hz625 : cs < cs557 ∨ (hd = hd ∧ sl = sl) := (Or.inr ⟨rfl, rfl⟩)
      have hz626 : ¬ K.2.1 0 q = 22 → hd = hd := (fun _ => rfl)
      have hz627 : gr ≤ gr564 ∧ rg563 ≤ 625 ∧ rg563 ≤ gr564 ∧ (rg563 = 625 ∨ rg563 = gr564) := (by omega)
      have hz628 : EnV (B556 26) (B556 27) nd vr hd c0 sl := h581
      have hz629 : StW pb.1 pb.2.1 pb.2.2.1 pb.2.2.2 Ag Ag562 Q9 Q566 pd pd567 m9 dp561 lw cs cs557 as9 as558 hd hd sl sl gr gr564 (B556 16) (B556 17) (B556 18) (B556 19) [] := hst611
      have hz630 : LpS K555 (B556 16) (B556 17) Ag562 pd567 lp9 lw cs557 hd sl hdL slL xb568 xc569 := h583
      have hz631 : PdS pd pd567 xb xb568 xc xc569 [] cs cs557 := hpd613
      have hz632 : RgQx B556 Q566 gr564 nd := h585
      have hz633 : LpR K555 lp9 rL := h586
      have hO : OKP G h0 a (upd (upd (upd (upd (upd (upd (upd (upd (upd (upd F 2 (nI sz)) 5 (nI cs557)) 6 (nI rg563)) 7 (nI hd)) 8 (nI dp561)) 12 (nI vr)) 13 as558) 14 wt559) 15 wf560) 16 ls565) (updR (updR (updR R 2 (.ref pq)) 3 (.ref mq)) 4 (va_rf lp9)) Z B556 J K555 w := hO.to rfl
      refine W.widen (k := ((rE (g 2 q) - rS (g 2 q)) + 1)) (n := (6 * (rE (g 2 q) - rS (g 2 q)) + 6)) (by omega) (by omega) ?_
      have hzz1 : H.size ≤ s.heap.size + ((rE (g 2 q) - rS (g 2 q))) := (by have z : (rE (g 2 q) - rS (g 2 q)) ≤ (rE (g 2 q) - rS (g 2 q)) := (by omega); omega)
      have hzz2 : hSl H ≤ hSl s.heap + ((6 * (rE (g 2 q) - rS (g 2 q)))) := (by have z : (6 * (rE (g 2 q) - rS (g 2 q))) ≤ (6 * (rE (g 2 q) - rS (g 2 q))) := (by omega); omega)
      exact W.vret hx hb hr (fun t99 ht99 hW99 => ⟨⟨_, (w, (K555, B556, cs557, as558, wt559, wf560, vr, hd, dp561, Ag562, sl, rg563, gr564, ls565, Q566, pd567, xb568, xc569)), rfl, ⟨rfl, hz614, hz615, hz616, hz617, hz618, hz619, hz620, hz621, hz622, hz623, hz624, hz625, hz626, hz627, hz628, hz629, hz630, hz631, hz632, hz633, hO⟩, by rw [ht99]; exact hP, hD, by rw [ht99]; exact hzz1, by rw [ht99]; exact hzz2⟩, hS.F ht99⟩) hS.2.2 dX0_statement_241
    by_cases h634 : kd = 28
    · subst h634
      refine lv_tableIn (tgt := 128) (off := 92) hx hb dX0_statement_36 (by decide) (by decide) (by decide) (by decide) ?_
      have hsk2 := hskq.2.2.2.2.2.1 hkd
      have hsk3 := hsk2.1
      refine lv_aload_n hx hb dX0_statement_128 rfl (lv_at hl 2 rfl) ?_
      refine lv_aload_n hx hb dX0_statement_129 rfl (lv_at hl 1 rfl) ?_
      have htl635 : tlE g q = rE (g 2 q) - rS (g 2 q) := rfl
      have hO : OKP G h0 a (upd (upd (upd (upd (upd (upd (upd (upd (upd (upd (upd (upd (upd (upd (upd (upd (upd F 2 (nI sz)) 5 (nI cs)) 6 (nI rg)) 7 (nI hd)) 8 (nI dp)) 12 (nI vr)) 13 as9) 16 ls9) 5 (nI cs2)) 2 (nI sz)) 5 (nI cs2)) 6 (nI rg)) 7 (nI hd)) 8 (nI dp)) 12 (nI vr)) 13 as9) 16 ls9) (updR (updR (updR (updR (updR (updR R 2 (.ref pq)) 3 (.ref mq)) 4 (va_rf lp9)) 2 (.ref pq)) 3 (.ref mq)) 4 (va_rf lp9)) Z B2 J K w := hO.to rfl
      obtain ⟨_, qr639, hqr640⟩ := hO.2.1 24 _ (sg_24 G h0 a _ _ _ _ _)
      refine pn_V0 (G := G) (As := [.ref q]) (rest := []) hx hb hml hown hq hE hX pX0_al hP hD hS hA hl.1 (Y_return l G h0 a (upd (upd (upd (upd (upd (upd (upd (upd (upd F 2 (nI sz)) 5 (nI cs)) 6 (nI rg)) 7 (nI hd)) 8 (nI dp)) 12 (nI vr)) 13 as9) 16 ls9) 5 (nI cs2)) (updR (updR (updR R 2 (.ref pq)) 3 (.ref mq)) 4 (va_rf lp9)) Z B2 J K w pq dr ml nd nm cp it s9 q mq cs2 vr sz n hd dp rg ls9 lp9 g rk pb A2 Q9 pd sl m9 lw c0 rt gr as9 (by omega) (BdE.wp BdE.rfl hwp) (BdE.pt BdE.rfl hwp hps) (BdE.rko BdE.rfl hrk) (by omega) (by omega) hng2 hmq hqT hqL hrt hrv (by omega) (by omega) (by omega) (LpO.be BdE.rfl hlo) (EkA.be BdE.rfl (hbr2 7 (by decide)) (hbr2 11 (by decide)) hek) (OwC.be BdE.rfl hmq hdr0 hcO) (NaB.be BdE.rfl BeF.rfl hwp hps.2.1 hdr0 (hbr2 11 (by decide)) hna) hen2 hao hst2.1 (by omega) (fun x9 hx9 => by have z9 := (hwp.1 q hqT hqL.1).2.1 0 x9 (by decide) hx9; have z8 := hsk2.2 x9 hx9; exact ⟨z9.1, ⟨z9.2.1, by have z7 := z9.2.2.1; omega⟩, z8.1.1, z8.1.2, z8.2⟩) hsk3 hO hl0) (gV pw_330 pw_331 pw_332 pw_63 pw_280) hV_X0_returnStatement qr639 0 hqr640 rfl rfl rfl (Nat.le_of_ble_eq_true rfl) dX0_statement_130 ⟨(by show 0 + 1 ≤ ((rE (g 2 q) - rS (g 2 q)) + 1); omega), (by show 0 + 6 ≤ (6 * (rE (g 2 q) - rS (g 2 q)) + 6); omega)⟩ ⟨(by show (5 * n + 33) + 1 ≤ (5 * n + 50); omega), (by show 8 + (2 + 11) + (200 * n + 560) ≤ (200 * n + 1200); omega)⟩ (fun v638 u636 H locs hw637 hP hD hS => ?_) (fun ux ce9 q9 H9 locs9 hux hP9 hD9 hS9 hce hcv hcl => pb_out ux (ThQ.up (Thx.same (Thx.same (Thx.same (Thx.same (Thx.same (Thx.same (Thx.same (Thx.same (Thx.f (Bth.thx hbb2) (by omega)) rfl) rfl) rfl) rfl) rfl) rfl) rfl) rfl) (show RhX (updR (updR (updR R 2 (.ref pq)) 3 (.ref mq)) 4 (va_rf lp9)) (updR (updR (updR (updR (updR (updR R 2 (.ref pq)) 3 (.ref mq)) 4 (va_rf lp9)) 2 (.ref pq)) 3 (.ref mq)) 4 (va_rf lp9)) from fun k9 hk9 => by unfold updR; simp only [show ¬ k9 = 1 by omega, show ¬ k9 = 2 by omega, show ¬ k9 = 3 by omega, show ¬ k9 = 4 by omega, if_false]) hux) hnt hlocks hce hcv hcl hP9 hD9 hS9 (by show 0 + 1 ≤ ((rE (g 2 q) - rS (g 2 q)) + 1); omega) (by show 0 + 6 ≤ (6 * (rE (g 2 q) - rS (g 2 q)) + 6); omega))
      obtain ⟨w, K641, B642, cs643, as644, wt645, wf646, vr647, hd648, dp649, Ag650, sl651⟩ := u636
      obtain ⟨hw637, h652, h653, h654, h655, h656, h657, h658, h659, h660, h661, h662, h663, h664, h665, h666, hO⟩ := hw637
      have h652 : SmW B2 B642 cs2 := h652
      have h653 : BdE K K641 := h653
      have h654 : BeF K K641 := h654
      have h655 : BeL K K641 none := h655
      have h656 : Bth B2 B642 := h656
      have h657 : BsR B2 B642 := h657
      have h658 : cs2 ≤ cs643 ∧ cs643 + 1 ≤ cs2 + 2 * tlE g q := h658
      have h659 : dp ≤ dp649 ∧ dp649 ≤ 71 := h659
      have h660 : vr ≤ vr647 ∧ vr647 ≤ 30 ∧ hd648 + vr = hd + vr647 := h660
      have h661 : AsO as644 := h661
      have h662 : VrS B2 B642 vr := h662
      have h663 : cs2 < cs643 := h663
      have h664 : EnV (B642 26) (B642 27) nd vr647 hd648 c0 sl651 := h664
      have h665 : StW pb.1 pb.2.1 pb.2.2.1 pb.2.2.2 A2 Ag650 Q9 Q9 pd pd m9 dp649 lw cs2 cs643 as9 as644 hd hd648 sl sl651 gr gr (B642 16) (B642 17) (B642 18) (B642 19) [] := h665
      have h666 : hd648 = hd := h666
      obtain rfl : v638 = none := hw637
      have hf667 : K641.1 pq = 7 := (BdE.T h653 hp1 (by decide))
      have hf668 : K641.2.2.1 18 pq = some (a 1) := (BdE.C h653 (by rw [hp1]; decide) 18).trans hp2
      have hf669 : K641.2.2.1 14 pq = some dr := (BdE.C h653 (by rw [hp1]; decide) 14).trans hp3
      have hf670 : K641.1 dr = 8 := (BdE.T h653 hp4 (by decide))
      have hf671 : K641.2.2.1 15 pq = some ml := (BdE.C h653 (by rw [hp1]; decide) 15).trans hp5
      have hf672 : K641.1 ml = 5 := (BdE.T h653 hp6 (by decide))
      have hf673 : K641.2.1 24 pq = (nI nd) := (BdE.I h653 (by rw [hp1]; decide) (by decide) (by decide)).trans hp8
      have hf674 : K641.1 q = 1 := (BdE.T h653 hqT (by decide))
      have hf675 : K641.1 mq = 3 := (BdE.T h653 hmq (by decide))
      have hf676 : K641.2.1 10 mq = (nI rt) := (BdE.I h653 (by rw [hmq]; decide) (by decide) (by decide)).trans hrt
      have hf677 : K641.2.1 0 q = 28 := (BdE.I h653 (by rw [hqT]; decide) (by decide) (by decide)).trans hkd
      have hO : OKP G h0 a (upd (upd (upd (upd (upd (upd (upd (upd (upd (upd F 2 (nI sz)) 5 (nI cs643)) 6 (nI rg)) 7 (nI hd648)) 8 (nI dp649)) 12 (nI vr647)) 13 as644) 14 wt645) 15 wf646) 16 ls9) (updR (updR (updR R 2 (.ref pq)) 3 (.ref mq)) 4 (va_rf lp9)) Z B642 J K641 w := hO.to rfl
      refine W.widen (k := 0) (n := 0) (by show 0 + 0 ≤ 0; omega) (by show 0 + 0 ≤ 0; omega) ?_
      refine W.eq (g2 := F0 m 133 ls []) rfl ?_
      have hbe678 := BdE.trans BdE.rfl h653
      have hbb679 : Bth B B642 := Bth.trans (show Thx (upd (upd (upd (upd (upd (upd (upd (upd F 2 (nI sz)) 5 (nI cs)) 6 (nI rg)) 7 (nI hd)) 8 (nI dp)) 12 (nI vr)) 13 as9) 16 ls9) (upd (upd (upd (upd (upd (upd (upd (upd (upd F 2 (nI sz)) 5 (nI cs)) 6 (nI rg)) 7 (nI hd)) 8 (nI dp)) 12 (nI vr)) 13 as9) 16 ls9) 5 (nI cs2)) B B2 from (Thx.f (Bth.thx hbb2) (by omega))).2 h656
      have hng680 : Nng (B642 18) := h656.2 hng2
      have hsw681 : ∀ x9 : Nat, x9 < cs → (B642 16) x9 = B 16 x9 := fun x9 hx9 => ((h652 x9 (by omega)).1).trans ((fun x9 hx9 => (hsw2 x9 hx9).1) x9 hx9)
      have hsw682 : ∀ x9 : Nat, x9 < cs → (B642 17) x9 = B 17 x9 := fun x9 hx9 => ((h652 x9 (by omega)).2.1).trans ((fun x9 hx9 => (hsw2 x9 hx9).2.1) x9 hx9)
      have hsw683 : ∀ x9 : Nat, x9 < cs → (B642 18) x9 = B 18 x9 := fun x9 hx9 => ((h652 x9 (by omega)).2.2.1).trans ((fun x9 hx9 => (hsw2 x9 hx9).2.2.1) x9 hx9)
      have hsw684 : ∀ x9 : Nat, x9 < cs → (B642 19) x9 = B 19 x9 := fun x9 hx9 => ((h652 x9 (by omega)).2.2.2).trans ((fun x9 hx9 => (hsw2 x9 hx9).2.2.2) x9 hx9)
      have hbf685 := BeF.trans BeF.rfl h654 BdE.rfl
      have hbl687 : BeL K K641 lp9 := BeL.trans BeL.rfl (BeL.any h655) BdE.rfl
      have hbr686 : BtR B B642 := BtR.trans hbr2 (BsR.bt h657)
      have hvs688 : VrS B B642 vr := VrS.trans hvs2 h662 (by omega)
      have hst689 : StW pb.1 pb.2.1 pb.2.2.1 pb.2.2.2 Ag Ag650 Q9 Q9 pd pd m9 dp649 lw cs cs643 as9 as644 hd hd648 sl sl651 gr gr (B642 16) (B642 17) (B642 18) (B642 19) ([] : List Nat) := StW.seq hst2 (by omega) (fun x9 hx9 => ⟨(h652 x9 hx9).1, (h652 x9 hx9).2.1⟩) h665
      have hsn690 := hst689.1.2.2.2.1
      have hrq691 : RgQx B642 Q9 gr nd := RgQx.ber hrq2 (BsR.rg h657 20 (by decide) (by decide)) (BsR.rg h657 21 (by decide) (by decide)) (BsR.rg h657 22 (by decide) (by decide)) (BsR.rg h657 23 (by decide) (by decide)) (BsR.rg h657 24 (by decide) (by decide))
      have hlp692 : LpS K641 (B642 16) (B642 17) Ag650 pd lp9 lw cs643 hd648 sl651 hdL slL xb xc := LpS.same hlp2 (fun lq9 e9 f9 _ _ => h655 lq9 (LpO.be BdE.rfl hlo lq9 e9) (fun z => by cases z) f9) (fun z9 hz9 => ⟨(h652 z9 hz9).1, (h652 z9 hz9).2.1, h665.2.2.1 z9 (by omega)⟩) (fun _ h9 => h9) (fun z9 h9 => Nat.lt_of_lt_of_le (hlp2.1 z9 h9) (by omega)) (by omega) h665.2.2.2.2.2.2.1
      have hpd693 : PdS pd pd xb xb xc xc ([] : List Nat) cs cs643 := PdS.wk (PdS.rfl (cs1 := cs2)) (by omega)
      have hlr694 : LpR K641 lp9 rL := LpR.same hlr (fun lq9 e9 f9 _ _ => h655 lq9 (LpO.be BdE.rfl hlo lq9 e9) (fun z => by cases z) f9)
      refine lv_goto (tgt := 241) hx hb dX0_statement_133 (by decide) ?_
      refine W_size (fun hz1 hz2 => ?_)
      refine vx_ret ?_
      have hz695 : SmW B B642 cs := (fun x9 hx9 => ⟨hsw681 x9 hx9, hsw682 x9 hx9, hsw683 x9 hx9, hsw684 x9 hx9⟩)
      have hz696 : BdE K K641 := hbe678
      have hz697 : BeF K K641 := hbf685
      have hz698 : BeL K K641 lp9 := hbl687
      have hz699 : Bth B B642 := (show Thx (upd (upd (upd (upd (upd (upd (upd (upd F 2 (nI sz)) 5 (nI cs)) 6 (nI rg)) 7 (nI hd)) 8 (nI dp)) 12 (nI vr)) 13 as9) 16 ls9) (upd (upd (upd (upd (upd (upd (upd (upd (upd (upd (upd (upd (upd (upd (upd F 2 (nI sz)) 5 (nI cs)) 6 (nI rg)) 7 (nI hd)) 8 (nI dp)) 12 (nI vr)) 13 as9) 16 ls9) 5 (nI cs643)) 7 (nI hd648)) 8 (nI dp649)) 12 (nI vr647)) 13 as644) 14 wt645) 15 wf646) B B642 from (Thx.f (Thx.f (Thx.f (Thx.f (Thx.f (Thx.f (Thx.f (Bth.thx hbb679) (by omega)) (by omega)) (by omega)) (by omega)) (by omega)) (by omega)) (by omega))).2
      have hz700 : BtR B B642 := hbr686
      have hz701 : cs ≤ cs643 ∧ cs643 + 0 ≤ cs + 2 * tlE g q := (by omega)
      have hz702 : dp ≤ dp649 ∧ dp649 ≤ 71 := (by omega)
      have hz703 : vr ≤ vr647 ∧ vr647 ≤ 30 ∧ hd648 + vr = hd + vr647 := (by omega)
      have hz704 : AsO as644 := h661
      have hz705 : VrS B B642 vr := hvs688
      have hz706 : cs < cs643 ∨ (hd648 = hd ∧ sl651 = sl) := (Or.inl (by omega))
      have hz707 : ¬ K.2.1 0 q = 22 → hd648 = hd := (fun _ => h666)
      have hz708 : gr ≤ gr ∧ rg ≤ 625 ∧ rg ≤ gr ∧ (rg = 625 ∨ rg = gr) := (by omega)
      have hz709 : EnV (B642 26) (B642 27) nd vr647 hd648 c0 sl651 := h664
      have hz710 : StW pb.1 pb.2.1 pb.2.2.1 pb.2.2.2 Ag Ag650 Q9 Q9 pd pd m9 dp649 lw cs cs643 as9 as644 hd hd648 sl sl651 gr gr (B642 16) (B642 17) (B642 18) (B642 19) [] := hst689
      have hz711 : LpS K641 (B642 16) (B642 17) Ag650 pd lp9 lw cs643 hd648 sl651 hdL slL xb xc := hlp692
      have hz712 : PdS pd pd xb xb xc xc [] cs cs643 := hpd693
      have hz713 : RgQx B642 Q9 gr nd := hrq691
      have hz714 : LpR K641 lp9 rL := hlr694
      have hO : OKP G h0 a (upd (upd (upd (upd (upd (upd (upd (upd (upd (upd F 2 (nI sz)) 5 (nI cs643)) 6 (nI rg)) 7 (nI hd648)) 8 (nI dp649)) 12 (nI vr647)) 13 as644) 14 wt645) 15 wf646) 16 ls9) (updR (updR (updR R 2 (.ref pq)) 3 (.ref mq)) 4 (va_rf lp9)) Z B642 J K641 w := hO.to rfl
      refine W.widen (k := ((rE (g 2 q) - rS (g 2 q)) + 1)) (n := (6 * (rE (g 2 q) - rS (g 2 q)) + 6)) (by omega) (by omega) ?_
      have hzz1 : H.size ≤ s.heap.size + ((rE (g 2 q) - rS (g 2 q))) := (by have z : 0 ≤ (rE (g 2 q) - rS (g 2 q)) := (by omega); omega)
      have hzz2 : hSl H ≤ hSl s.heap + ((6 * (rE (g 2 q) - rS (g 2 q)))) := (by have z : 0 ≤ (6 * (rE (g 2 q) - rS (g 2 q))) := (by omega); omega)
      exact W.vret hx hb hr (fun t99 ht99 hW99 => ⟨⟨_, (w, (K641, B642, cs643, as644, wt645, wf646, vr647, hd648, dp649, Ag650, sl651, rg, gr, ls9, Q9, pd, xb, xc)), rfl, ⟨rfl, hz695, hz696, hz697, hz698, hz699, hz700, hz701, hz702, hz703, hz704, hz705, hz706, hz707, hz708, hz709, hz710, hz711, hz712, hz713, hz714, hO⟩, by rw [ht99]; exact hP, hD, by rw [ht99]; exact hzz1, by rw [ht99]; exact hzz2⟩, hS.F ht99⟩) hS.2.2 dX0_statement_241
    by_cases h715 : kd = 29
    · subst h715
      refine lv_tableIn (tgt := 136) (off := 100) hx hb dX0_statement_36 (by decide) (by decide) (by decide) (by decide) ?_
      have hsk3 := hskq.2.2.2.2.2.2.1 (by rw [hkd]; decide)
      refine lv_aload_n hx hb dX0_statement_136 rfl (lv_at hl 2 rfl) ?_
      refine lv_aload_n hx hb dX0_statement_137 rfl (lv_at hl 1 rfl) ?_
      have htl716 : tlE g q = rE (g 2 q) - rS (g 2 q) := rfl
      have hO : OKP G h0 a (upd (upd (upd (upd (upd (upd (upd (upd (upd (upd (upd (upd (upd (upd (upd (upd (upd F 2 (nI sz)) 5 (nI cs)) 6 (nI rg)) 7 (nI hd)) 8 (nI dp)) 12 (nI vr)) 13 as9) 16 ls9) 5 (nI cs2)) 2 (nI sz)) 5 (nI cs2)) 6 (nI rg)) 7 (nI hd)) 8 (nI dp)) 12 (nI vr)) 13 as9) 16 ls9) (updR (updR (updR (updR (updR (updR R 2 (.ref pq)) 3 (.ref mq)) 4 (va_rf lp9)) 2 (.ref pq)) 3 (.ref mq)) 4 (va_rf lp9)) Z B2 J K w := hO.to rfl
      obtain ⟨_, qr720, hqr721⟩ := hO.2.1 24 _ (sg_24 G h0 a _ _ _ _ _)
      refine pn_V0 (G := G) (As := [.ref q]) (rest := []) hx hb hml hown hq hE hX pX0_al hP hD hS hA hl.1 (Y_jumpS l G h0 a (upd (upd (upd (upd (upd (upd (upd (upd (upd F 2 (nI sz)) 5 (nI cs)) 6 (nI rg)) 7 (nI hd)) 8 (nI dp)) 12 (nI vr)) 13 as9) 16 ls9) 5 (nI cs2)) (updR (updR (updR R 2 (.ref pq)) 3 (.ref mq)) 4 (va_rf lp9)) Z B2 J K w pq dr ml nd nm cp it s9 q mq cs2 vr sz n hd dp rg ls9 lp9 g rk pb A2 Q9 pd sl m9 lw c0 rt gr as9 hdL slL xb xc rL (by omega) (BdE.wp BdE.rfl hwp) (BdE.pt BdE.rfl hwp hps) (BdE.rko BdE.rfl hrk) (by omega) (by omega) hng2 hmq hqT hqL hrt hrv (by omega) (by omega) (by omega) (LpO.be BdE.rfl hlo) (EkA.be BdE.rfl (hbr2 7 (by decide)) (hbr2 11 (by decide)) hek) (OwC.be BdE.rfl hmq hdr0 hcO) (NaB.be BdE.rfl BeF.rfl hwp hps.2.1 hdr0 (hbr2 11 (by decide)) hna) hen2 hao hst2.1 (by omega) (by omega) (by omega) (SkA.be BdE.rfl (hbr2 11 (by decide)) hsk) hlp2 hrq2 (fun z9 => hrL (hst2.2.2.2.2.2.1 z9)) hlr (Or.inl hkd) hO hl0) (gV pw_333 pw_334 pw_335 pw_63 pw_286) hV_X0_jumpStatement qr720 0 hqr721 rfl rfl rfl (Nat.le_of_ble_eq_true rfl) dX0_statement_138 ⟨(by show 0 + 1 ≤ ((rE (g 2 q) - rS (g 2 q)) + 1); omega), (by show 0 + 6 ≤ (6 * (rE (g 2 q) - rS (g 2 q)) + 6); omega)⟩ ⟨(by show (5 * n + 33) + 1 ≤ (5 * n + 50); omega), (by show 8 + (3 + 11) + (200 * n + 560) ≤ (200 * n + 1200); omega)⟩ (fun v719 u717 H locs hw718 hP hD hS => ?_) (fun ux ce9 q9 H9 locs9 hux hP9 hD9 hS9 hce hcv hcl => pb_out ux (ThQ.up (Thx.same (Thx.same (Thx.same (Thx.same (Thx.same (Thx.same (Thx.same (Thx.same (Thx.f (Bth.thx hbb2) (by omega)) rfl) rfl) rfl) rfl) rfl) rfl) rfl) rfl) (show RhX (updR (updR (updR R 2 (.ref pq)) 3 (.ref mq)) 4 (va_rf lp9)) (updR (updR (updR (updR (updR (updR R 2 (.ref pq)) 3 (.ref mq)) 4 (va_rf lp9)) 2 (.ref pq)) 3 (.ref mq)) 4 (va_rf lp9)) from fun k9 hk9 => by unfold updR; simp only [show ¬ k9 = 1 by omega, show ¬ k9 = 2 by omega, show ¬ k9 = 3 by omega, show ¬ k9 = 4 by omega, if_false]) hux) hnt hlocks hce hcv hcl hP9 hD9 hS9 (by show 0 + 1 ≤ ((rE (g 2 q) - rS (g 2 q)) + 1); omega) (by show 0 + 6 ≤ (6 * (rE (g 2 q) - rS (g 2 q)) + 6); omega))
      obtain ⟨w, K722, B723, cs724, as725, wt726, wf727, dp728, Ag729, rg730, gr731, ls732, Q733, pd734, xb735, xc736⟩ := u717
      obtain ⟨hw718, h737, h738, h739, h740, h741, h742, h743, h744, h745, h746, h747, h748, h749, h750, h751, h752, h753, hO⟩ := hw718
      have h737 : SmW B2 B723 cs2 := h737
      have h738 : BdE K K722 := h738
      have h739 : BeF K K722 := h739
      have h740 : BeL K K722 lp9 := h740
      have h741 : Bth B2 B723 := h741
      have h742 : BtR B2 B723 := h742
      have h743 : cs2 ≤ cs724 ∧ cs724 + 1 ≤ cs2 + 2 * tlE g q := h743
      have h744 : dp ≤ dp728 ∧ dp728 ≤ 71 := h744
      have h745 : AsO as725 := h745
      have h746 : VrS B2 B723 vr := h746
      have h747 : gr ≤ gr731 ∧ rg730 ≤ 625 ∧ rg730 ≤ gr731 ∧ (rg730 = 625 ∨ rg730 = gr731) := h747
      have h748 : EnV (B723 26) (B723 27) nd vr hd c0 sl := h748
      have h749 : StW pb.1 pb.2.1 pb.2.2.1 pb.2.2.2 A2 Ag729 Q9 Q733 pd pd734 m9 dp728 lw cs2 cs724 as9 as725 hd hd sl sl gr gr731 (B723 16) (B723 17) (B723 18) (B723 19) [] := h749
      have h750 : LpS K722 (B723 16) (B723 17) Ag729 pd734 lp9 lw cs724 hd sl hdL slL xb735 xc736 := h750
      have h751 : PdS pd pd734 xb xb735 xc xc736 [] cs2 cs724 := h751
      have h752 : RgQx B723 Q733 gr731 nd := h752
      have h753 : LpR K722 lp9 rL := h753
      obtain rfl : v719 = none := hw718
      have hf754 : K722.1 pq = 7 := (BdE.T h738 hp1 (by decide))
      have hf755 : K722.2.2.1 18 pq = some (a 1) := (BdE.C h738 (by rw [hp1]; decide) 18).trans hp2
      have hf756 : K722.2.2.1 14 pq = some dr := (BdE.C h738 (by rw [hp1]; decide) 14).trans hp3
      have hf757 : K722.1 dr = 8 := (BdE.T h738 hp4 (by decide))
      have hf758 : K722.2.2.1 15 pq = some ml := (BdE.C h738 (by rw [hp1]; decide) 15).trans hp5
      have hf759 : K722.1 ml = 5 := (BdE.T h738 hp6 (by decide))
      have hf760 : K722.2.1 24 pq = (nI nd) := (BdE.I h738 (by rw [hp1]; decide) (by decide) (by decide)).trans hp8
      have hf761 : K722.1 q = 1 := (BdE.T h738 hqT (by decide))
      have hf762 : K722.1 mq = 3 := (BdE.T h738 hmq (by decide))
      have hf763 : K722.2.1 10 mq = (nI rt) := (BdE.I h738 (by rw [hmq]; decide) (by decide) (by decide)).trans hrt
      have hf764 : K722.2.1 0 q = 29 := (BdE.I h738 (by rw [hqT]; decide) (by decide) (by decide)).trans hkd
      have hO : OKP G h0 a (upd (upd (upd (upd (upd (upd (upd (upd (upd (upd F 2 (nI sz)) 5 (nI cs724)) 6 (nI rg730)) 7 (nI hd)) 8 (nI dp728)) 12 (nI vr)) 13 as725) 14 wt726) 15 wf727) 16 ls732) (updR (updR (updR R 2 (.ref pq)) 3 (.ref mq)) 4 (va_rf lp9)) Z B723 J K722 w := hO.to rfl
      refine W.widen (k := 0) (n := 0) (by show 0 + 0 ≤ 0; omega) (by show 0 + 0 ≤ 0; omega) ?_
      refine W.eq (g2 := F0 m 141 ls []) rfl ?_
      have hbe765 := BdE.trans BdE.rfl h738
      have hbb766 : Bth B B723 := Bth.trans (show Thx (upd (upd (upd (upd (upd (upd (upd (upd F 2 (nI sz)) 5 (nI cs)) 6 (nI rg)) 7 (nI hd)) 8 (nI dp)) 12 (nI vr)) 13 as9) 16 ls9) (upd (upd (upd (upd (upd (upd (upd (upd (upd F 2 (nI sz)) 5 (nI cs)) 6 (nI rg)) 7 (nI hd)) 8 (nI dp)) 12 (nI vr)) 13 as9) 16 ls9) 5 (nI cs2)) B B2 from (Thx.f (Bth.thx hbb2) (by omega))).2 h741
      have hng767 : Nng (B723 18) := h741.2 hng2
      have hsw768 : ∀ x9 : Nat, x9 < cs → (B723 16) x9 = B 16 x9 := fun x9 hx9 => ((h737 x9 (by omega)).1).trans ((fun x9 hx9 => (hsw2 x9 hx9).1) x9 hx9)
      have hsw769 : ∀ x9 : Nat, x9 < cs → (B723 17) x9 = B 17 x9 := fun x9 hx9 => ((h737 x9 (by omega)).2.1).trans ((fun x9 hx9 => (hsw2 x9 hx9).2.1) x9 hx9)
      have hsw770 : ∀ x9 : Nat, x9 < cs → (B723 18) x9 = B 18 x9 := fun x9 hx9 => ((h737 x9 (by omega)).2.2.1).trans ((fun x9 hx9 => (hsw2 x9 hx9).2.2.1) x9 hx9)
      have hsw771 : ∀ x9 : Nat, x9 < cs → (B723 19) x9 = B 19 x9 := fun x9 hx9 => ((h737 x9 (by omega)).2.2.2).trans ((fun x9 hx9 => (hsw2 x9 hx9).2.2.2) x9 hx9)
      have hbf772 := BeF.trans BeF.rfl h739 BdE.rfl
      have hbl774 : BeL K K722 lp9 := BeL.trans BeL.rfl h740 BdE.rfl
      have hbr773 : BtR B B723 := BtR.trans hbr2 h742
      have hvs775 : VrS B B723 vr := VrS.trans hvs2 h746 (by omega)
      have hst776 : StW pb.1 pb.2.1 pb.2.2.1 pb.2.2.2 Ag Ag729 Q9 Q733 pd pd734 m9 dp728 lw cs cs724 as9 as725 hd hd sl sl gr gr731 (B723 16) (B723 17) (B723 18) (B723 19) ([] : List Nat) := StW.seq hst2 (by omega) (fun x9 hx9 => ⟨(h737 x9 hx9).1, (h737 x9 hx9).2.1⟩) h749
      have hsn777 := hst776.1.2.2.2.1
      have hpd778 : PdS pd pd734 xb xb735 xc xc736 ([] : List Nat) cs cs724 := PdS.call (PdS.rfl (cs1 := cs2)) h751 (by omega) (by omega)
      refine lv_goto (tgt := 241) hx hb dX0_statement_141 (by decide) ?_
      refine W_size (fun hz1 hz2 => ?_)
      refine vx_ret ?_
      have hz779 : SmW B B723 cs := (fun x9 hx9 => ⟨hsw768 x9 hx9, hsw769 x9 hx9, hsw770 x9 hx9, hsw771 x9 hx9⟩)
      have hz780 : BdE K K722 := hbe765
      have hz781 : BeF K K722 := hbf772
      have hz782 : BeL K K722 lp9 := hbl774
      have hz783 : Bth B B723 := (show Thx (upd (upd (upd (upd (upd (upd (upd (upd F 2 (nI sz)) 5 (nI cs)) 6 (nI rg)) 7 (nI hd)) 8 (nI dp)) 12 (nI vr)) 13 as9) 16 ls9) (upd (upd (upd (upd (upd (upd (upd (upd (upd (upd (upd (upd (upd (upd (upd F 2 (nI sz)) 5 (nI cs)) 6 (nI rg)) 7 (nI hd)) 8 (nI dp)) 12 (nI vr)) 13 as9) 16 ls9) 5 (nI cs724)) 6 (nI rg730)) 8 (nI dp728)) 13 as725) 14 wt726) 15 wf727) 16 ls732) B B723 from (Thx.f (Thx.f (Thx.f (Thx.f (Thx.f (Thx.f (Thx.f (Bth.thx hbb766) (by omega)) (by omega)) (by omega)) (by omega)) (by omega)) (by omega)) (by omega))).2
      have hz784 : BtR B B723 := hbr773
      have hz785 : cs ≤ cs724 ∧ cs724 + 0 ≤ cs + 2 * tlE g q := (by omega)
      have hz786 : dp ≤ dp728 ∧ dp728 ≤ 71 := (by omega)
      have hz787 : vr ≤ vr ∧ vr ≤ 30 ∧ hd + vr = hd + vr := (by omega)
      have hz788 : AsO as725 := h745
      have hz789 : VrS B B723 vr := hvs775
      have hz790 : cs < cs724 ∨ (hd = hd ∧ sl = sl) := (Or.inr ⟨rfl, rfl⟩)
      have hz791 : ¬ K.2.1 0 q = 22 → hd = hd := (fun _ => rfl)
      have hz792 : gr ≤ gr731 ∧ rg730 ≤ 625 ∧ rg730 ≤ gr731 ∧ (rg730 = 625 ∨ rg730 = gr731) := (by omega)
      have hz793 : EnV (B723 26) (B723 27) nd vr hd c0 sl := h748
      have hz794 : StW pb.1 pb.2.1 pb.2.2.1 pb.2.2.2 Ag Ag729 Q9 Q733 pd pd734 m9 dp728 lw cs cs724 as9 as725 hd hd sl sl gr gr731 (B723 16) (B723 17) (B723 18) (B723 19) [] := hst776
      have hz795 : LpS K722 (B723 16) (B723 17) Ag729 pd734 lp9 lw cs724 hd sl hdL slL xb735 xc736 := h750
      have hz796 : PdS pd pd734 xb xb735 xc xc736 [] cs cs724 := hpd778
      have hz797 : RgQx B723 Q733 gr731 nd := h752
      have hz798 : LpR K722 lp9 rL := h753
      have hO : OKP G h0 a (upd (upd (upd (upd (upd (upd (upd (upd (upd (upd F 2 (nI sz)) 5 (nI cs724)) 6 (nI rg730)) 7 (nI hd)) 8 (nI dp728)) 12 (nI vr)) 13 as725) 14 wt726) 15 wf727) 16 ls732) (updR (updR (updR R 2 (.ref pq)) 3 (.ref mq)) 4 (va_rf lp9)) Z B723 J K722 w := hO.to rfl
      refine W.widen (k := ((rE (g 2 q) - rS (g 2 q)) + 1)) (n := (6 * (rE (g 2 q) - rS (g 2 q)) + 6)) (by omega) (by omega) ?_
      have hzz1 : H.size ≤ s.heap.size + ((rE (g 2 q) - rS (g 2 q))) := (by have z : 0 ≤ (rE (g 2 q) - rS (g 2 q)) := (by omega); omega)
      have hzz2 : hSl H ≤ hSl s.heap + ((6 * (rE (g 2 q) - rS (g 2 q)))) := (by have z : 0 ≤ (6 * (rE (g 2 q) - rS (g 2 q))) := (by omega); omega)
      exact W.vret hx hb hr (fun t99 ht99 hW99 => ⟨⟨_, (w, (K722, B723, cs724, as725, wt726, wf727, vr, hd, dp728, Ag729, sl, rg730, gr731, ls732, Q733, pd734, xb735, xc736)), rfl, ⟨rfl, hz779, hz780, hz781, hz782, hz783, hz784, hz785, hz786, hz787, hz788, hz789, hz790, hz791, hz792, hz793, hz794, hz795, hz796, hz797, hz798, hO⟩, by rw [ht99]; exact hP, hD, by rw [ht99]; exact hzz1, by rw [ht99]; exact hzz2⟩, hS.F ht99⟩) hS.2.2 dX0_statement_241
    by_cases h799 : kd = 30
    · subst h799
      refine lv_tableIn (tgt := 136) (off := 100) hx hb dX0_statement_36 (by decide) (by decide) (by decide) (by decide) ?_
      have hsk3 := hskq.2.2.2.2.2.2.1 (by rw [hkd]; decide)
      refine lv_aload_n hx hb dX0_statement_136 rfl (lv_at hl 2 rfl) ?_
      refine lv_aload_n hx hb dX0_statement_137 rfl (lv_at hl 1 rfl) ?_
      have htl800 : tlE g q = rE (g 2 q) - rS (g 2 q) := rfl
      have hO : OKP G h0 a (upd (upd (upd (upd (upd (upd (upd (upd (upd (upd (upd (upd (upd (upd (upd (upd (upd F 2 (nI sz)) 5 (nI cs)) 6 (nI rg)) 7 (nI hd)) 8 (nI dp)) 12 (nI vr)) 13 as9) 16 ls9) 5 (nI cs2)) 2 (nI sz)) 5 (nI cs2)) 6 (nI rg)) 7 (nI hd)) 8 (nI dp)) 12 (nI vr)) 13 as9) 16 ls9) (updR (updR (updR (updR (updR (updR R 2 (.ref pq)) 3 (.ref mq)) 4 (va_rf lp9)) 2 (.ref pq)) 3 (.ref mq)) 4 (va_rf lp9)) Z B2 J K w := hO.to rfl
      obtain ⟨_, qr804, hqr805⟩ := hO.2.1 24 _ (sg_24 G h0 a _ _ _ _ _)
      refine pn_V0 (G := G) (As := [.ref q]) (rest := []) hx hb hml hown hq hE hX pX0_al hP hD hS hA hl.1 (Y_jumpS l G h0 a (upd (upd (upd (upd (upd (upd (upd (upd (upd F 2 (nI sz)) 5 (nI cs)) 6 (nI rg)) 7 (nI hd)) 8 (nI dp)) 12 (nI vr)) 13 as9) 16 ls9) 5 (nI cs2)) (updR (updR (updR R 2 (.ref pq)) 3 (.ref mq)) 4 (va_rf lp9)) Z B2 J K w pq dr ml nd nm cp it s9 q mq cs2 vr sz n hd dp rg ls9 lp9 g rk pb A2 Q9 pd sl m9 lw c0 rt gr as9 hdL slL xb xc rL (by omega) (BdE.wp BdE.rfl hwp) (BdE.pt BdE.rfl hwp hps) (BdE.rko BdE.rfl hrk) (by omega) (by omega) hng2 hmq hqT hqL hrt hrv (by omega) (by omega) (by omega) (LpO.be BdE.rfl hlo) (EkA.be BdE.rfl (hbr2 7 (by decide)) (hbr2 11 (by decide)) hek) (OwC.be BdE.rfl hmq hdr0 hcO) (NaB.be BdE.rfl BeF.rfl hwp hps.2.1 hdr0 (hbr2 11 (by decide)) hna) hen2 hao hst2.1 (by omega) (by omega) (by omega) (SkA.be BdE.rfl (hbr2 11 (by decide)) hsk) hlp2 hrq2 (fun z9 => hrL (hst2.2.2.2.2.2.1 z9)) hlr (Or.inr hkd) hO hl0) (gV pw_333 pw_334 pw_335 pw_63 pw_286) hV_X0_jumpStatement qr804 0 hqr805 rfl rfl rfl (Nat.le_of_ble_eq_true rfl) dX0_statement_138 ⟨(by show 0 + 1 ≤ ((rE (g 2 q) - rS (g 2 q)) + 1); omega), (by show 0 + 6 ≤ (6 * (rE (g 2 q) - rS (g 2 q)) + 6); omega)⟩ ⟨(by show (5 * n + 33) + 1 ≤ (5 * n + 50); omega), (by show 8 + (3 + 11) + (200 * n + 560) ≤ (200 * n + 1200); omega)⟩ (fun v803 u801 H locs hw802 hP hD hS => ?_) (fun ux ce9 q9 H9 locs9 hux hP9 hD9 hS9 hce hcv hcl => pb_out ux (ThQ.up (Thx.same (Thx.same (Thx.same (Thx.same (Thx.same (Thx.same (Thx.same (Thx.same (Thx.f (Bth.thx hbb2) (by omega)) rfl) rfl) rfl) rfl) rfl) rfl) rfl) rfl) (show RhX (updR (updR (updR R 2 (.ref pq)) 3 (.ref mq)) 4 (va_rf lp9)) (updR (updR (updR (updR (updR (updR R 2 (.ref pq)) 3 (.ref mq)) 4 (va_rf lp9)) 2 (.ref pq)) 3 (.ref mq)) 4 (va_rf lp9)) from fun k9 hk9 => by unfold updR; simp only [show ¬ k9 = 1 by omega, show ¬ k9 = 2 by omega, show ¬ k9 = 3 by omega, show ¬ k9 = 4 by omega, if_false]) hux) hnt hlocks hce hcv hcl hP9 hD9 hS9 (by show 0 + 1 ≤ ((rE (g 2 q) - rS (g 2 q)) + 1); omega) (by show 0 + 6 ≤ (6 * (rE (g 2 q) - rS (g 2 q)) + 6); omega))
      obtain ⟨w, K806, B807, cs808, as809, wt810, wf811, dp812, Ag813, rg814, gr815, ls816, Q817, pd818, xb819, xc820⟩ := u801
      obtain ⟨hw802, h821, h822, h823, h824, h825, h826, h827, h828, h829, h830, h831, h832, h833, h834, h835, h836, h837, hO⟩ := hw802
      have h821 : SmW B2 B807 cs2 := h821
      have h822 : BdE K K806 := h822
      have h823 : BeF K K806 := h823
      have h824 : BeL K K806 lp9 := h824
      have h825 : Bth B2 B807 := h825
      have h826 : BtR B2 B807 := h826
      have h827 : cs2 ≤ cs808 ∧ cs808 + 1 ≤ cs2 + 2 * tlE g q := h827
      have h828 : dp ≤ dp812 ∧ dp812 ≤ 71 := h828
      have h829 : AsO as809 := h829
      have h830 : VrS B2 B807 vr := h830
      have h831 : gr ≤ gr815 ∧ rg814 ≤ 625 ∧ rg814 ≤ gr815 ∧ (rg814 = 625 ∨ rg814 = gr815) := h831
      have h832 : EnV (B807 26) (B807 27) nd vr hd c0 sl := h832
      have h833 : StW pb.1 pb.2.1 pb.2.2.1 pb.2.2.2 A2 Ag813 Q9 Q817 pd pd818 m9 dp812 lw cs2 cs808 as9 as809 hd hd sl sl gr gr815 (B807 16) (B807 17) (B807 18) (B807 19) [] := h833
      have h834 : LpS K806 (B807 16) (B807 17) Ag813 pd818 lp9 lw cs808 hd sl hdL slL xb819 xc820 := h834
      have h835 : PdS pd pd818 xb xb819 xc xc820 [] cs2 cs808 := h835
      have h836 : RgQx B807 Q817 gr815 nd := h836
      have h837 : LpR K806 lp9 rL := h837
      obtain rfl : v803 = none := hw802
      have hf838 : K806.1 pq = 7 := (BdE.T h822 hp1 (by decide))
      have hf839 : K806.2.2.1 18 pq = some (a 1) := (BdE.C h822 (by rw [hp1]; decide) 18).trans hp2
      have hf840 : K806.2.2.1 14 pq = some dr := (BdE.C h822 (by rw [hp1]; decide) 14).trans hp3
      have hf841 : K806.1 dr = 8 := (BdE.T h822 hp4 (by decide))
      have hf842 : K806.2.2.1 15 pq = some ml := (BdE.C h822 (by rw [hp1]; decide) 15).trans hp5
      have hf843 : K806.1 ml = 5 := (BdE.T h822 hp6 (by decide))
      have hf844 : K806.2.1 24 pq = (nI nd) := (BdE.I h822 (by rw [hp1]; decide) (by decide) (by decide)).trans hp8
      have hf845 : K806.1 q = 1 := (BdE.T h822 hqT (by decide))
      have hf846 : K806.1 mq = 3 := (BdE.T h822 hmq (by decide))
      have hf847 : K806.2.1 10 mq = (nI rt) := (BdE.I h822 (by rw [hmq]; decide) (by decide) (by decide)).trans hrt
      have hf848 : K806.2.1 0 q = 30 := (BdE.I h822 (by rw [hqT]; decide) (by decide) (by decide)).trans hkd
      have hO : OKP G h0 a (upd (upd (upd (upd (upd (upd (upd (upd (upd (upd F 2 (nI sz)) 5 (nI cs808)) 6 (nI rg814)) 7 (nI hd)) 8 (nI dp812)) 12 (nI vr)) 13 as809) 14 wt810) 15 wf811) 16 ls816) (updR (updR (updR R 2 (.ref pq)) 3 (.ref mq)) 4 (va_rf lp9)) Z B807 J K806 w := hO.to rfl
      refine W.widen (k := 0) (n := 0) (by show 0 + 0 ≤ 0; omega) (by show 0 + 0 ≤ 0; omega) ?_
      refine W.eq (g2 := F0 m 141 ls []) rfl ?_
      have hbe849 := BdE.trans BdE.rfl h822
      have hbb850 : Bth B B807 := Bth.trans (show Thx (upd (upd (upd (upd (upd (upd (upd (upd F 2 (nI sz)) 5 (nI cs)) 6 (nI rg)) 7 (nI hd)) 8 (nI dp)) 12 (nI vr)) 13 as9) 16 ls9) (upd (upd (upd (upd (upd (upd (upd (upd (upd F 2 (nI sz)) 5 (nI cs)) 6 (nI rg)) 7 (nI hd)) 8 (nI dp)) 12 (nI vr)) 13 as9) 16 ls9) 5 (nI cs2)) B B2 from (Thx.f (Bth.thx hbb2) (by omega))).2 h825
      have hng851 : Nng (B807 18) := h825.2 hng2
      have hsw852 : ∀ x9 : Nat, x9 < cs → (B807 16) x9 = B 16 x9 := fun x9 hx9 => ((h821 x9 (by omega)).1).trans ((fun x9 hx9 => (hsw2 x9 hx9).1) x9 hx9)
      have hsw853 : ∀ x9 : Nat, x9 < cs → (B807 17) x9 = B 17 x9 := fun x9 hx9 => ((h821 x9 (by omega)).2.1).trans ((fun x9 hx9 => (hsw2 x9 hx9).2.1) x9 hx9)
      have hsw854 : ∀ x9 : Nat, x9 < cs → (B807 18) x9 = B 18 x9 := fun x9 hx9 => ((h821 x9 (by omega)).2.2.1).trans ((fun x9 hx9 => (hsw2 x9 hx9).2.2.1) x9 hx9)
      have hsw855 : ∀ x9 : Nat, x9 < cs → (B807 19) x9 = B 19 x9 := fun x9 hx9 => ((h821 x9 (by omega)).2.2.2).trans ((fun x9 hx9 => (hsw2 x9 hx9).2.2.2) x9 hx9)
      have hbf856 := BeF.trans BeF.rfl h823 BdE.rfl
      have hbl858 : BeL K K806 lp9 := BeL.trans BeL.rfl h824 BdE.rfl
      have hbr857 : BtR B B807 := BtR.trans hbr2 h826
      have hvs859 : VrS B B807 vr := VrS.trans hvs2 h830 (by omega)
      have hst860 : StW pb.1 pb.2.1 pb.2.2.1 pb.2.2.2 Ag Ag813 Q9 Q817 pd pd818 m9 dp812 lw cs cs808 as9 as809 hd hd sl sl gr gr815 (B807 16) (B807 17) (B807 18) (B807 19) ([] : List Nat) := StW.seq hst2 (by omega) (fun x9 hx9 => ⟨(h821 x9 hx9).1, (h821 x9 hx9).2.1⟩) h833
      have hsn861 := hst860.1.2.2.2.1
      have hpd862 : PdS pd pd818 xb xb819 xc xc820 ([] : List Nat) cs cs808 := PdS.call (PdS.rfl (cs1 := cs2)) h835 (by omega) (by omega)
      refine lv_goto (tgt := 241) hx hb dX0_statement_141 (by decide) ?_
      refine W_size (fun hz1 hz2 => ?_)
      refine vx_ret ?_
      have hz863 : SmW B B807 cs := (fun x9 hx9 => ⟨hsw852 x9 hx9, hsw853 x9 hx9, hsw854 x9 hx9, hsw855 x9 hx9⟩)
      have hz864 : BdE K K806 := hbe849
      have hz865 : BeF K K806 := hbf856
      have hz866 : BeL K K806 lp9 := hbl858
      have hz867 : Bth B B807 := (show Thx (upd (upd (upd (upd (upd (upd (upd (upd F 2 (nI sz)) 5 (nI cs)) 6 (nI rg)) 7 (nI hd)) 8 (nI dp)) 12 (nI vr)) 13 as9) 16 ls9) (upd (upd (upd (upd (upd (upd (upd (upd (upd (upd (upd (upd (upd (upd (upd F 2 (nI sz)) 5 (nI cs)) 6 (nI rg)) 7 (nI hd)) 8 (nI dp)) 12 (nI vr)) 13 as9) 16 ls9) 5 (nI cs808)) 6 (nI rg814)) 8 (nI dp812)) 13 as809) 14 wt810) 15 wf811) 16 ls816) B B807 from (Thx.f (Thx.f (Thx.f (Thx.f (Thx.f (Thx.f (Thx.f (Bth.thx hbb850) (by omega)) (by omega)) (by omega)) (by omega)) (by omega)) (by omega)) (by omega))).2
      have hz868 : BtR B B807 := hbr857
      have hz869 : cs ≤ cs808 ∧ cs808 + 0 ≤ cs + 2 * tlE g q := (by omega)
      have hz870 : dp ≤ dp812 ∧ dp812 ≤ 71 := (by omega)
      have hz871 : vr ≤ vr ∧ vr ≤ 30 ∧ hd + vr = hd + vr := (by omega)
      have hz872 : AsO as809 := h829
      have hz873 : VrS B B807 vr := hvs859
      have hz874 : cs < cs808 ∨ (hd = hd ∧ sl = sl) := (Or.inr ⟨rfl, rfl⟩)
      have hz875 : ¬ K.2.1 0 q = 22 → hd = hd := (fun _ => rfl)
      have hz876 : gr ≤ gr815 ∧ rg814 ≤ 625 ∧ rg814 ≤ gr815 ∧ (rg814 = 625 ∨ rg814 = gr815) := (by omega)
      have hz877 : EnV (B807 26) (B807 27) nd vr hd c0 sl := h832
      have hz878 : StW pb.1 pb.2.1 pb.2.2.1 pb.2.2.2 Ag Ag813 Q9 Q817 pd pd818 m9 dp812 lw cs cs808 as9 as809 hd hd sl sl gr gr815 (B807 16) (B807 17) (B807 18) (B807 19) [] := hst860
      have hz879 : LpS K806 (B807 16) (B807 17) Ag813 pd818 lp9 lw cs808 hd sl hdL slL xb819 xc820 := h834
      have hz880 : PdS pd pd818 xb xb819 xc xc820 [] cs cs808 := hpd862
      have hz881 : RgQx B807 Q817 gr815 nd := h836
      have hz882 : LpR K806 lp9 rL := h837
      have hO : OKP G h0 a (upd (upd (upd (upd (upd (upd (upd (upd (upd (upd F 2 (nI sz)) 5 (nI cs808)) 6 (nI rg814)) 7 (nI hd)) 8 (nI dp812)) 12 (nI vr)) 13 as809) 14 wt810) 15 wf811) 16 ls816) (updR (updR (updR R 2 (.ref pq)) 3 (.ref mq)) 4 (va_rf lp9)) Z B807 J K806 w := hO.to rfl
      refine W.widen (k := ((rE (g 2 q) - rS (g 2 q)) + 1)) (n := (6 * (rE (g 2 q) - rS (g 2 q)) + 6)) (by omega) (by omega) ?_
      have hzz1 : H.size ≤ s.heap.size + ((rE (g 2 q) - rS (g 2 q))) := (by have z : 0 ≤ (rE (g 2 q) - rS (g 2 q)) := (by omega); omega)
      have hzz2 : hSl H ≤ hSl s.heap + ((6 * (rE (g 2 q) - rS (g 2 q)))) := (by have z : 0 ≤ (6 * (rE (g 2 q) - rS (g 2 q))) := (by omega); omega)
      exact W.vret hx hb hr (fun t99 ht99 hW99 => ⟨⟨_, (w, (K806, B807, cs808, as809, wt810, wf811, vr, hd, dp812, Ag813, sl, rg814, gr815, ls816, Q817, pd818, xb819, xc820)), rfl, ⟨rfl, hz863, hz864, hz865, hz866, hz867, hz868, hz869, hz870, hz871, hz872, hz873, hz874, hz875, hz876, hz877, hz878, hz879, hz880, hz881, hz882, hO⟩, by rw [ht99]; exact hP, hD, by rw [ht99]; exact hzz1, by rw [ht99]; exact hzz2⟩, hS.F ht99⟩) hS.2.2 dX0_statement_241
    by_cases h883 : kd = 31
    · subst h883
      refine lv_tableIn (tgt := 144) (off := 108) hx hb dX0_statement_36 (by decide) (by decide) (by decide) (by decide) ?_
      obtain ⟨q1, hc0, ht0, hw0⟩ := NdO.ch hnd (f := 0) (by decide) (hnd.1.1 (by rw [hkd]; decide))
      have hv0 : 1 ≤ g 0 q1 ∧ g 0 q1 + 1 ≤ n := ⟨hw0.1, (by have z := hw0.2; omega)⟩
      obtain ⟨hes1, htl9⟩ := hskq.2.2.2.2.2.2.2.1 (by rw [hkd]; decide) q1 hc0
      have hes3 := hes1.2
      have hes4 := hes1.1.1
      have hes5 := hes1.1.2
      refine lv_aload_n hx hb dX0_statement_144 rfl (lv_at hl 2 rfl) ?_
      refine lv_aload_n hx hb dX0_statement_145 rfl (lv_at hl 1 rfl) ?_
      have htl884 : tlE g q = rE (g 2 q) - rS (g 2 q) := rfl
      have hO : OKP G h0 a (upd (upd (upd (upd (upd (upd (upd (upd (upd (upd (upd (upd (upd (upd (upd (upd (upd F 2 (nI sz)) 5 (nI cs)) 6 (nI rg)) 7 (nI hd)) 8 (nI dp)) 12 (nI vr)) 13 as9) 16 ls9) 5 (nI cs2)) 2 (nI sz)) 5 (nI cs2)) 6 (nI rg)) 7 (nI hd)) 8 (nI dp)) 12 (nI vr)) 13 as9) 16 ls9) (updR (updR (updR (updR (updR (updR R 2 (.ref pq)) 3 (.ref mq)) 4 (va_rf lp9)) 2 (.ref pq)) 3 (.ref mq)) 4 (va_rf lp9)) Z B2 J K w := hO.to rfl
      obtain ⟨_, qr888, hqr889⟩ := hO.2.1 24 _ (sg_24 G h0 a _ _ _ _ _)
      refine pn_V0 (G := G) (As := [.ref q]) (rest := []) hx hb hml hown hq hE hX pX0_al hP hD hS hA hl.1 (Y_throw l G h0 a (upd (upd (upd (upd (upd (upd (upd (upd (upd F 2 (nI sz)) 5 (nI cs)) 6 (nI rg)) 7 (nI hd)) 8 (nI dp)) 12 (nI vr)) 13 as9) 16 ls9) 5 (nI cs2)) (updR (updR (updR R 2 (.ref pq)) 3 (.ref mq)) 4 (va_rf lp9)) Z B2 J K w pq dr ml nd nm cp it s9 q mq cs2 vr sz n q1 hd dp rg ls9 lp9 g rk pb A2 Q9 pd sl m9 lw c0 rt gr as9 (by omega) (BdE.wp BdE.rfl hwp) (BdE.pt BdE.rfl hwp hps) (BdE.rko BdE.rfl hrk) (by omega) (by omega) hng2 hmq hqT hqL hrt hrv (by omega) (by omega) (by omega) (LpO.be BdE.rfl hlo) (EkA.be BdE.rfl (hbr2 7 (by decide)) (hbr2 11 (by decide)) hek) (OwC.be BdE.rfl hmq hdr0 hcO) (NaB.be BdE.rfl BeF.rfl hwp hps.2.1 hdr0 (hbr2 11 (by decide)) hna) hen2 hao hst2.1 (by omega) hc0 ht0 hv0 hes1.1 hes1.2 htl9 hO hl0) (gV pw_336 pw_337 pw_338 pw_63 pw_287) hV_X0_throwStatement qr888 0 hqr889 rfl rfl rfl (Nat.le_of_ble_eq_true rfl) dX0_statement_146 ⟨(by show 0 + 1 ≤ ((rE (g 2 q) - rS (g 2 q)) + 1); omega), (by show 0 + 6 ≤ (6 * (rE (g 2 q) - rS (g 2 q)) + 6); omega)⟩ ⟨(by show (5 * n + 33) + 1 ≤ (5 * n + 50); omega), (by show 8 + (3 + 11) + (200 * n + 560) ≤ (200 * n + 1200); omega)⟩ (fun v887 u885 H locs hw886 hP hD hS => ?_) (fun ux ce9 q9 H9 locs9 hux hP9 hD9 hS9 hce hcv hcl => pb_out ux (ThQ.up (Thx.same (Thx.same (Thx.same (Thx.same (Thx.same (Thx.same (Thx.same (Thx.same (Thx.f (Bth.thx hbb2) (by omega)) rfl) rfl) rfl) rfl) rfl) rfl) rfl) rfl) (show RhX (updR (updR (updR R 2 (.ref pq)) 3 (.ref mq)) 4 (va_rf lp9)) (updR (updR (updR (updR (updR (updR R 2 (.ref pq)) 3 (.ref mq)) 4 (va_rf lp9)) 2 (.ref pq)) 3 (.ref mq)) 4 (va_rf lp9)) from fun k9 hk9 => by unfold updR; simp only [show ¬ k9 = 1 by omega, show ¬ k9 = 2 by omega, show ¬ k9 = 3 by omega, show ¬ k9 = 4 by omega, if_false]) hux) hnt hlocks hce hcv hcl hP9 hD9 hS9 (by show 0 + 1 ≤ ((rE (g 2 q) - rS (g 2 q)) + 1); omega) (by show 0 + 6 ≤ (6 * (rE (g 2 q) - rS (g 2 q)) + 6); omega))
      obtain ⟨w, K890, B891, cs892, as893, wt894, wf895, vr896, hd897, dp898, Ag899, sl900⟩ := u885
      obtain ⟨hw886, h901, h902, h903, h904, h905, h906, h907, h908, h909, h910, h911, h912, h913, h914, h915, hO⟩ := hw886
      have h901 : SmW B2 B891 cs2 := h901
      have h902 : BdE K K890 := h902
      have h903 : BeF K K890 := h903
      have h904 : BeL K K890 none := h904
      have h905 : Bth B2 B891 := h905
      have h906 : BsR B2 B891 := h906
      have h907 : cs2 ≤ cs892 ∧ cs892 + 1 ≤ cs2 + 2 * tlE g q := h907
      have h908 : dp ≤ dp898 ∧ dp898 ≤ 71 := h908
      have h909 : vr ≤ vr896 ∧ vr896 ≤ 30 ∧ hd897 + vr = hd + vr896 := h909
      have h910 : AsO as893 := h910
      have h911 : VrS B2 B891 vr := h911
      have h912 : cs2 < cs892 := h912
      have h913 : EnV (B891 26) (B891 27) nd vr896 hd897 c0 sl900 := h913
      have h914 : StW pb.1 pb.2.1 pb.2.2.1 pb.2.2.2 A2 Ag899 Q9 Q9 pd pd m9 dp898 lw cs2 cs892 as9 as893 hd hd897 sl sl900 gr gr (B891 16) (B891 17) (B891 18) (B891 19) [] := h914
      have h915 : hd897 = hd := h915
      obtain rfl : v887 = none := hw886
      have hf916 : K890.1 pq = 7 := (BdE.T h902 hp1 (by decide))
      have hf917 : K890.2.2.1 18 pq = some (a 1) := (BdE.C h902 (by rw [hp1]; decide) 18).trans hp2
      have hf918 : K890.2.2.1 14 pq = some dr := (BdE.C h902 (by rw [hp1]; decide) 14).trans hp3
      have hf919 : K890.1 dr = 8 := (BdE.T h902 hp4 (by decide))
      have hf920 : K890.2.2.1 15 pq = some ml := (BdE.C h902 (by rw [hp1]; decide) 15).trans hp5
      have hf921 : K890.1 ml = 5 := (BdE.T h902 hp6 (by decide))
      have hf922 : K890.2.1 24 pq = (nI nd) := (BdE.I h902 (by rw [hp1]; decide) (by decide) (by decide)).trans hp8
      have hf923 : K890.1 q = 1 := (BdE.T h902 hqT (by decide))
      have hf924 : K890.1 mq = 3 := (BdE.T h902 hmq (by decide))
      have hf925 : K890.2.1 10 mq = (nI rt) := (BdE.I h902 (by rw [hmq]; decide) (by decide) (by decide)).trans hrt
      have hf926 : K890.2.1 0 q = 31 := (BdE.I h902 (by rw [hqT]; decide) (by decide) (by decide)).trans hkd
      have hf927 : K890.2.2.1 0 q = some q1 := (BdE.C h902 (by rw [hqT]; decide) 0).trans hc0
      have hf928 : K890.1 q1 = 1 := (BdE.T h902 ht0 (by decide))
      have hO : OKP G h0 a (upd (upd (upd (upd (upd (upd (upd (upd (upd (upd F 2 (nI sz)) 5 (nI cs892)) 6 (nI rg)) 7 (nI hd897)) 8 (nI dp898)) 12 (nI vr896)) 13 as893) 14 wt894) 15 wf895) 16 ls9) (updR (updR (updR R 2 (.ref pq)) 3 (.ref mq)) 4 (va_rf lp9)) Z B891 J K890 w := hO.to rfl
      refine W.widen (k := 0) (n := 0) (by show 0 + 0 ≤ 0; omega) (by show 0 + 0 ≤ 0; omega) ?_
      refine W.eq (g2 := F0 m 149 ls []) rfl ?_
      have hbe929 := BdE.trans BdE.rfl h902
      have hbb930 : Bth B B891 := Bth.trans (show Thx (upd (upd (upd (upd (upd (upd (upd (upd F 2 (nI sz)) 5 (nI cs)) 6 (nI rg)) 7 (nI hd)) 8 (nI dp)) 12 (nI vr)) 13 as9) 16 ls9) (upd (upd (upd (upd (upd (upd (upd (upd (upd F 2 (nI sz)) 5 (nI cs)) 6 (nI rg)) 7 (nI hd)) 8 (nI dp)) 12 (nI vr)) 13 as9) 16 ls9) 5 (nI cs2)) B B2 from (Thx.f (Bth.thx hbb2) (by omega))).2 h905
      have hng931 : Nng (B891 18) := h905.2 hng2
      have hsw932 : ∀ x9 : Nat, x9 < cs → (B891 16) x9 = B 16 x9 := fun x9 hx9 => ((h901 x9 (by omega)).1).trans ((fun x9 hx9 => (hsw2 x9 hx9).1) x9 hx9)
      have hsw933 : ∀ x9 : Nat, x9 < cs → (B891 17) x9 = B 17 x9 := fun x9 hx9 => ((h901 x9 (by omega)).2.1).trans ((fun x9 hx9 => (hsw2 x9 hx9).2.1) x9 hx9)
      have hsw934 : ∀ x9 : Nat, x9 < cs → (B891 18) x9 = B 18 x9 := fun x9 hx9 => ((h901 x9 (by omega)).2.2.1).trans ((fun x9 hx9 => (hsw2 x9 hx9).2.2.1) x9 hx9)
      have hsw935 : ∀ x9 : Nat, x9 < cs → (B891 19) x9 = B 19 x9 := fun x9 hx9 => ((h901 x9 (by omega)).2.2.2).trans ((fun x9 hx9 => (hsw2 x9 hx9).2.2.2) x9 hx9)
      have hbf936 := BeF.trans BeF.rfl h903 BdE.rfl
      have hbl938 : BeL K K890 lp9 := BeL.trans BeL.rfl (BeL.any h904) BdE.rfl
      have hbr937 : BtR B B891 := BtR.trans hbr2 (BsR.bt h906)
      have hvs939 : VrS B B891 vr := VrS.trans hvs2 h911 (by omega)
      have hst940 : StW pb.1 pb.2.1 pb.2.2.1 pb.2.2.2 Ag Ag899 Q9 Q9 pd pd m9 dp898 lw cs cs892 as9 as893 hd hd897 sl sl900 gr gr (B891 16) (B891 17) (B891 18) (B891 19) ([] : List Nat) := StW.seq hst2 (by omega) (fun x9 hx9 => ⟨(h901 x9 hx9).1, (h901 x9 hx9).2.1⟩) h914
      have hsn941 := hst940.1.2.2.2.1
      have hrq942 : RgQx B891 Q9 gr nd := RgQx.ber hrq2 (BsR.rg h906 20 (by decide) (by decide)) (BsR.rg h906 21 (by decide) (by decide)) (BsR.rg h906 22 (by decide) (by decide)) (BsR.rg h906 23 (by decide) (by decide)) (BsR.rg h906 24 (by decide) (by decide))
      have hlp943 : LpS K890 (B891 16) (B891 17) Ag899 pd lp9 lw cs892 hd897 sl900 hdL slL xb xc := LpS.same hlp2 (fun lq9 e9 f9 _ _ => h904 lq9 (LpO.be BdE.rfl hlo lq9 e9) (fun z => by cases z) f9) (fun z9 hz9 => ⟨(h901 z9 hz9).1, (h901 z9 hz9).2.1, h914.2.2.1 z9 (by omega)⟩) (fun _ h9 => h9) (fun z9 h9 => Nat.lt_of_lt_of_le (hlp2.1 z9 h9) (by omega)) (by omega) h914.2.2.2.2.2.2.1
      have hpd944 : PdS pd pd xb xb xc xc ([] : List Nat) cs cs892 := PdS.wk (PdS.rfl (cs1 := cs2)) (by omega)
      have hlr945 : LpR K890 lp9 rL := LpR.same hlr (fun lq9 e9 f9 _ _ => h904 lq9 (LpO.be BdE.rfl hlo lq9 e9) (fun z => by cases z) f9)
      refine lv_goto (tgt := 241) hx hb dX0_statement_149 (by decide) ?_
      refine W_size (fun hz1 hz2 => ?_)
      refine vx_ret ?_
      have hz946 : SmW B B891 cs := (fun x9 hx9 => ⟨hsw932 x9 hx9, hsw933 x9 hx9, hsw934 x9 hx9, hsw935 x9 hx9⟩)
      have hz947 : BdE K K890 := hbe929
      have hz948 : BeF K K890 := hbf936
      have hz949 : BeL K K890 lp9 := hbl938
      have hz950 : Bth B B891 := (show Thx (upd (upd (upd (upd (upd (upd (upd (upd F 2 (nI sz)) 5 (nI cs)) 6 (nI rg)) 7 (nI hd)) 8 (nI dp)) 12 (nI vr)) 13 as9) 16 ls9) (upd (upd (upd (upd (upd (upd (upd (upd (upd (upd (upd (upd (upd (upd (upd F 2 (nI sz)) 5 (nI cs)) 6 (nI rg)) 7 (nI hd)) 8 (nI dp)) 12 (nI vr)) 13 as9) 16 ls9) 5 (nI cs892)) 7 (nI hd897)) 8 (nI dp898)) 12 (nI vr896)) 13 as893) 14 wt894) 15 wf895) B B891 from (Thx.f (Thx.f (Thx.f (Thx.f (Thx.f (Thx.f (Thx.f (Bth.thx hbb930) (by omega)) (by omega)) (by omega)) (by omega)) (by omega)) (by omega)) (by omega))).2
      have hz951 : BtR B B891 := hbr937
      have hz952 : cs ≤ cs892 ∧ cs892 + 0 ≤ cs + 2 * tlE g q := (by omega)
      have hz953 : dp ≤ dp898 ∧ dp898 ≤ 71 := (by omega)
      have hz954 : vr ≤ vr896 ∧ vr896 ≤ 30 ∧ hd897 + vr = hd + vr896 := (by omega)
      have hz955 : AsO as893 := h910
      have hz956 : VrS B B891 vr := hvs939
      have hz957 : cs < cs892 ∨ (hd897 = hd ∧ sl900 = sl) := (Or.inl (by omega))
      have hz958 : ¬ K.2.1 0 q = 22 → hd897 = hd := (fun _ => h915)
      have hz959 : gr ≤ gr ∧ rg ≤ 625 ∧ rg ≤ gr ∧ (rg = 625 ∨ rg = gr) := (by omega)
      have hz960 : EnV (B891 26) (B891 27) nd vr896 hd897 c0 sl900 := h913
      have hz961 : StW pb.1 pb.2.1 pb.2.2.1 pb.2.2.2 Ag Ag899 Q9 Q9 pd pd m9 dp898 lw cs cs892 as9 as893 hd hd897 sl sl900 gr gr (B891 16) (B891 17) (B891 18) (B891 19) [] := hst940
      have hz962 : LpS K890 (B891 16) (B891 17) Ag899 pd lp9 lw cs892 hd897 sl900 hdL slL xb xc := hlp943
      have hz963 : PdS pd pd xb xb xc xc [] cs cs892 := hpd944
      have hz964 : RgQx B891 Q9 gr nd := hrq942
      have hz965 : LpR K890 lp9 rL := hlr945
      have hO : OKP G h0 a (upd (upd (upd (upd (upd (upd (upd (upd (upd (upd F 2 (nI sz)) 5 (nI cs892)) 6 (nI rg)) 7 (nI hd897)) 8 (nI dp898)) 12 (nI vr896)) 13 as893) 14 wt894) 15 wf895) 16 ls9) (updR (updR (updR R 2 (.ref pq)) 3 (.ref mq)) 4 (va_rf lp9)) Z B891 J K890 w := hO.to rfl
      refine W.widen (k := ((rE (g 2 q) - rS (g 2 q)) + 1)) (n := (6 * (rE (g 2 q) - rS (g 2 q)) + 6)) (by omega) (by omega) ?_
      have hzz1 : H.size ≤ s.heap.size + ((rE (g 2 q) - rS (g 2 q))) := (by have z : 0 ≤ (rE (g 2 q) - rS (g 2 q)) := (by omega); omega)
      have hzz2 : hSl H ≤ hSl s.heap + ((6 * (rE (g 2 q) - rS (g 2 q)))) := (by have z : 0 ≤ (6 * (rE (g 2 q) - rS (g 2 q))) := (by omega); omega)
      exact W.vret hx hb hr (fun t99 ht99 hW99 => ⟨⟨_, (w, (K890, B891, cs892, as893, wt894, wf895, vr896, hd897, dp898, Ag899, sl900, rg, gr, ls9, Q9, pd, xb, xc)), rfl, ⟨rfl, hz946, hz947, hz948, hz949, hz950, hz951, hz952, hz953, hz954, hz955, hz956, hz957, hz958, hz959, hz960, hz961, hz962, hz963, hz964, hz965, hO⟩, by rw [ht99]; exact hP, hD, by rw [ht99]; exact hzz1, by rw [ht99]; exact hzz2⟩, hS.F ht99⟩) hS.2.2 dX0_statement_241
    by_cases h966 : kd = 32
    · subst h966
      refine lv_tableIn (tgt := 152) (off := 116) hx hb dX0_statement_36 (by decide) (by decide) (by decide) (by decide) ?_
      obtain ⟨q1, hc0, ht0, hw0⟩ := NdO.ch hnd (f := 0) (by decide) (hnd.1.1 (by rw [hkd]; decide))
      have hv0 : 1 ≤ g 0 q1 ∧ g 0 q1 + 1 ≤ n := ⟨hw0.1, (by have z := hw0.2; omega)⟩
      rcases hos2 : K.2.2.1 2 q with _ | q3
      · skip
        refine lv_aload_n hx hb dX0_statement_152 rfl (lv_at hl 2 rfl) ?_
        refine lv_aload_n hx hb dX0_statement_153 rfl (lv_at hl 1 rfl) ?_
        have htl967 : tlE g q = rE (g 2 q) - rS (g 2 q) := rfl
        have hO : OKP G h0 a (upd (upd (upd (upd (upd (upd (upd (upd (upd (upd (upd (upd (upd (upd (upd (upd (upd F 2 (nI sz)) 5 (nI cs)) 6 (nI rg)) 7 (nI hd)) 8 (nI dp)) 12 (nI vr)) 13 as9) 16 ls9) 5 (nI cs2)) 2 (nI sz)) 5 (nI cs2)) 6 (nI rg)) 7 (nI hd)) 8 (nI dp)) 12 (nI vr)) 13 as9) 16 ls9) (updR (updR (updR (updR (updR (updR R 2 (.ref pq)) 3 (.ref mq)) 4 (va_rf lp9)) 2 (.ref pq)) 3 (.ref mq)) 4 (va_rf lp9)) Z B2 J K w := hO.to rfl
        obtain ⟨_, qr971, hqr972⟩ := hO.2.1 24 _ (sg_24 G h0 a _ _ _ _ _)
        refine pn_V0 (G := G) (As := [.ref q]) (rest := []) hx hb hml hown hq hE hX pX0_al hP hD hS hA hl.1 (Y_tryN l G h0 a (upd (upd (upd (upd (upd (upd (upd (upd (upd F 2 (nI sz)) 5 (nI cs)) 6 (nI rg)) 7 (nI hd)) 8 (nI dp)) 12 (nI vr)) 13 as9) 16 ls9) 5 (nI cs2)) (updR (updR (updR R 2 (.ref pq)) 3 (.ref mq)) 4 (va_rf lp9)) Z B2 J K w pq dr ml nd nm cp it s9 q mq cs2 vr sz n q1 hd dp rg ls9 lp9 g rk pb A2 Q9 pd sl m9 lw c0 rt gr as9 hdL slL xb xc rL (by omega) (BdE.wp BdE.rfl hwp) (BdE.pt BdE.rfl hwp hps) (BdE.rko BdE.rfl hrk) (by omega) (by omega) hng2 hmq hqT hqL hrt hrv (by omega) (by omega) (by omega) (LpO.be BdE.rfl hlo) (EkA.be BdE.rfl (hbr2 7 (by decide)) (hbr2 11 (by decide)) hek) (OwC.be BdE.rfl hmq hdr0 hcO) (NaB.be BdE.rfl BeF.rfl hwp hps.2.1 hdr0 (hbr2 11 (by decide)) hna) hen2 hao hst2.1 (by omega) (by omega) (by omega) (SkA.be BdE.rfl (hbr2 11 (by decide)) hsk) hlp2 hrq2 (fun z9 => hrL (hst2.2.2.2.2.2.1 z9)) hlr hc0 ht0 hv0 hkd hos2 ist hO hl0) (gV pw_339 pw_340 pw_341 pw_63 pw_348) hV_X0_tryStatement qr971 0 hqr972 rfl rfl rfl (Nat.le_of_ble_eq_true rfl) dX0_statement_154 ⟨(by show 0 + ((rE (g 2 q) - rS (g 2 q)) + 1) ≤ ((rE (g 2 q) - rS (g 2 q)) + 1); omega), (by show 0 + (6 * (rE (g 2 q) - rS (g 2 q)) + 6) ≤ (6 * (rE (g 2 q) - rS (g 2 q)) + 6); omega)⟩ ⟨(by show (5 * n + 46) + 1 ≤ (5 * n + 50); omega), (by show 8 + (11 + 11) + (200 * n + 1120) ≤ (200 * n + 1200); omega)⟩ (fun v970 u968 H locs hw969 hP hD hS => ?_) (fun ux ce9 q9 H9 locs9 hux hP9 hD9 hS9 hce hcv hcl => pb_out ux (ThQ.up (Thx.same (Thx.same (Thx.same (Thx.same (Thx.same (Thx.same (Thx.same (Thx.same (Thx.f (Bth.thx hbb2) (by omega)) rfl) rfl) rfl) rfl) rfl) rfl) rfl) rfl) (show RhX (updR (updR (updR R 2 (.ref pq)) 3 (.ref mq)) 4 (va_rf lp9)) (updR (updR (updR (updR (updR (updR R 2 (.ref pq)) 3 (.ref mq)) 4 (va_rf lp9)) 2 (.ref pq)) 3 (.ref mq)) 4 (va_rf lp9)) from fun k9 hk9 => by unfold updR; simp only [show ¬ k9 = 1 by omega, show ¬ k9 = 2 by omega, show ¬ k9 = 3 by omega, show ¬ k9 = 4 by omega, if_false]) hux) hnt hlocks hce hcv hcl hP9 hD9 hS9 (by show 0 + ((rE (g 2 q) - rS (g 2 q)) + 1) ≤ ((rE (g 2 q) - rS (g 2 q)) + 1); omega) (by show 0 + (6 * (rE (g 2 q) - rS (g 2 q)) + 6) ≤ (6 * (rE (g 2 q) - rS (g 2 q)) + 6); omega))
        obtain ⟨w, K973, B974, cs975, as976, wt977, wf978, dp979, Ag980, rg981, gr982, ls983, Q984, pd985, xb986, xc987⟩ := u968
        obtain ⟨hw969, h988, h989, h990, h991, h992, h993, h994, h995, h996, h997, h998, h999, h1000, h1001, h1002, h1003, h1004, hO⟩ := hw969
        have h988 : SmW B2 B974 cs2 := h988
        have h989 : BdE K K973 := h989
        have h990 : BeF K K973 := h990
        have h991 : BeL K K973 lp9 := h991
        have h992 : Bth B2 B974 := h992
        have h993 : BtR B2 B974 := h993
        have h994 : cs2 ≤ cs975 ∧ cs975 + 1 ≤ cs2 + 2 * tlE g q := h994
        have h995 : dp ≤ dp979 ∧ dp979 ≤ 71 := h995
        have h996 : AsO as976 := h996
        have h997 : VrS B2 B974 vr := h997
        have h998 : gr ≤ gr982 ∧ rg981 ≤ 625 ∧ rg981 ≤ gr982 ∧ (rg981 = 625 ∨ rg981 = gr982) := h998
        have h999 : EnV (B974 26) (B974 27) nd vr hd c0 sl := h999
        have h1000 : StW pb.1 pb.2.1 pb.2.2.1 pb.2.2.2 A2 Ag980 Q9 Q984 pd pd985 m9 dp979 lw cs2 cs975 as9 as976 hd hd sl sl gr gr982 (B974 16) (B974 17) (B974 18) (B974 19) [] := h1000
        have h1001 : LpS K973 (B974 16) (B974 17) Ag980 pd985 lp9 lw cs975 hd sl hdL slL xb986 xc987 := h1001
        have h1002 : PdS pd pd985 xb xb986 xc xc987 [] cs2 cs975 := h1002
        have h1003 : RgQx B974 Q984 gr982 nd := h1003
        have h1004 : LpR K973 lp9 rL := h1004
        obtain rfl : v970 = none := hw969
        have hf1005 : K973.1 pq = 7 := (BdE.T h989 hp1 (by decide))
        have hf1006 : K973.2.2.1 18 pq = some (a 1) := (BdE.C h989 (by rw [hp1]; decide) 18).trans hp2
        have hf1007 : K973.2.2.1 14 pq = some dr := (BdE.C h989 (by rw [hp1]; decide) 14).trans hp3
        have hf1008 : K973.1 dr = 8 := (BdE.T h989 hp4 (by decide))
        have hf1009 : K973.2.2.1 15 pq = some ml := (BdE.C h989 (by rw [hp1]; decide) 15).trans hp5
        have hf1010 : K973.1 ml = 5 := (BdE.T h989 hp6 (by decide))
        have hf1011 : K973.2.1 24 pq = (nI nd) := (BdE.I h989 (by rw [hp1]; decide) (by decide) (by decide)).trans hp8
        have hf1012 : K973.1 q = 1 := (BdE.T h989 hqT (by decide))
        have hf1013 : K973.1 mq = 3 := (BdE.T h989 hmq (by decide))
        have hf1014 : K973.2.1 10 mq = (nI rt) := (BdE.I h989 (by rw [hmq]; decide) (by decide) (by decide)).trans hrt
        have hf1015 : K973.2.1 0 q = 32 := (BdE.I h989 (by rw [hqT]; decide) (by decide) (by decide)).trans hkd
        have hf1016 : K973.2.2.1 0 q = some q1 := (BdE.C h989 (by rw [hqT]; decide) 0).trans hc0
        have hf1017 : K973.1 q1 = 1 := (BdE.T h989 ht0 (by decide))
        have hf1018 : K973.2.2.1 2 q = none := (BdE.C h989 (by rw [hqT]; decide) 2).trans hos2
        have hO : OKP G h0 a (upd (upd (upd (upd (upd (upd (upd (upd (upd (upd F 2 (nI sz)) 5 (nI cs975)) 6 (nI rg981)) 7 (nI hd)) 8 (nI dp979)) 12 (nI vr)) 13 as976) 14 wt977) 15 wf978) 16 ls983) (updR (updR (updR R 2 (.ref pq)) 3 (.ref mq)) 4 (va_rf lp9)) Z B974 J K973 w := hO.to rfl
        refine W.widen (k := (rE (g 2 q) - rS (g 2 q))) (n := (6 * (rE (g 2 q) - rS (g 2 q)))) (by show 0 + (rE (g 2 q) - rS (g 2 q)) ≤ (rE (g 2 q) - rS (g 2 q)); omega) (by show 0 + (6 * (rE (g 2 q) - rS (g 2 q))) ≤ (6 * (rE (g 2 q) - rS (g 2 q))); omega) ?_
        refine W.eq (g2 := F0 m 157 ls []) rfl ?_
        have hbe1019 := BdE.trans BdE.rfl h989
        have hbb1020 : Bth B B974 := Bth.trans (show Thx (upd (upd (upd (upd (upd (upd (upd (upd F 2 (nI sz)) 5 (nI cs)) 6 (nI rg)) 7 (nI hd)) 8 (nI dp)) 12 (nI vr)) 13 as9) 16 ls9) (upd (upd (upd (upd (upd (upd (upd (upd (upd F 2 (nI sz)) 5 (nI cs)) 6 (nI rg)) 7 (nI hd)) 8 (nI dp)) 12 (nI vr)) 13 as9) 16 ls9) 5 (nI cs2)) B B2 from (Thx.f (Bth.thx hbb2) (by omega))).2 h992
        have hng1021 : Nng (B974 18) := h992.2 hng2
        have hsw1022 : ∀ x9 : Nat, x9 < cs → (B974 16) x9 = B 16 x9 := fun x9 hx9 => ((h988 x9 (by omega)).1).trans ((fun x9 hx9 => (hsw2 x9 hx9).1) x9 hx9)
        have hsw1023 : ∀ x9 : Nat, x9 < cs → (B974 17) x9 = B 17 x9 := fun x9 hx9 => ((h988 x9 (by omega)).2.1).trans ((fun x9 hx9 => (hsw2 x9 hx9).2.1) x9 hx9)
        have hsw1024 : ∀ x9 : Nat, x9 < cs → (B974 18) x9 = B 18 x9 := fun x9 hx9 => ((h988 x9 (by omega)).2.2.1).trans ((fun x9 hx9 => (hsw2 x9 hx9).2.2.1) x9 hx9)
        have hsw1025 : ∀ x9 : Nat, x9 < cs → (B974 19) x9 = B 19 x9 := fun x9 hx9 => ((h988 x9 (by omega)).2.2.2).trans ((fun x9 hx9 => (hsw2 x9 hx9).2.2.2) x9 hx9)
        have hbf1026 := BeF.trans BeF.rfl h990 BdE.rfl
        have hbl1028 : BeL K K973 lp9 := BeL.trans BeL.rfl h991 BdE.rfl
        have hbr1027 : BtR B B974 := BtR.trans hbr2 h993
        have hvs1029 : VrS B B974 vr := VrS.trans hvs2 h997 (by omega)
        have hst1030 : StW pb.1 pb.2.1 pb.2.2.1 pb.2.2.2 Ag Ag980 Q9 Q984 pd pd985 m9 dp979 lw cs cs975 as9 as976 hd hd sl sl gr gr982 (B974 16) (B974 17) (B974 18) (B974 19) ([] : List Nat) := StW.seq hst2 (by omega) (fun x9 hx9 => ⟨(h988 x9 hx9).1, (h988 x9 hx9).2.1⟩) h1000
        have hsn1031 := hst1030.1.2.2.2.1
        have hpd1032 : PdS pd pd985 xb xb986 xc xc987 ([] : List Nat) cs cs975 := PdS.call (PdS.rfl (cs1 := cs2)) h1002 (by omega) (by omega)
        refine lv_goto (tgt := 241) hx hb dX0_statement_157 (by decide) ?_
        refine W_size (fun hz1 hz2 => ?_)
        refine vx_ret ?_
        have hz1033 : SmW B B974 cs := (fun x9 hx9 => ⟨hsw1022 x9 hx9, hsw1023 x9 hx9, hsw1024 x9 hx9, hsw1025 x9 hx9⟩)
        have hz1034 : BdE K K973 := hbe1019
        have hz1035 : BeF K K973 := hbf1026
        have hz1036 : BeL K K973 lp9 := hbl1028
        have hz1037 : Bth B B974 := (show Thx (upd (upd (upd (upd (upd (upd (upd (upd F 2 (nI sz)) 5 (nI cs)) 6 (nI rg)) 7 (nI hd)) 8 (nI dp)) 12 (nI vr)) 13 as9) 16 ls9) (upd (upd (upd (upd (upd (upd (upd (upd (upd (upd (upd (upd (upd (upd (upd F 2 (nI sz)) 5 (nI cs)) 6 (nI rg)) 7 (nI hd)) 8 (nI dp)) 12 (nI vr)) 13 as9) 16 ls9) 5 (nI cs975)) 6 (nI rg981)) 8 (nI dp979)) 13 as976) 14 wt977) 15 wf978) 16 ls983) B B974 from (Thx.f (Thx.f (Thx.f (Thx.f (Thx.f (Thx.f (Thx.f (Bth.thx hbb1020) (by omega)) (by omega)) (by omega)) (by omega)) (by omega)) (by omega)) (by omega))).2
        have hz1038 : BtR B B974 := hbr1027
        have hz1039 : cs ≤ cs975 ∧ cs975 + 0 ≤ cs + 2 * tlE g q := (by omega)
        have hz1040 : dp ≤ dp979 ∧ dp979 ≤ 71 := (by omega)
        have hz1041 : vr ≤ vr ∧ vr ≤ 30 ∧ hd + vr = hd + vr := (by omega)
        have hz1042 : AsO as976 := h996
        have hz1043 : VrS B B974 vr := hvs1029
        have hz1044 : cs < cs975 ∨ (hd = hd ∧ sl = sl) := (Or.inr ⟨rfl, rfl⟩)
        have hz1045 : ¬ K.2.1 0 q = 22 → hd = hd := (fun _ => rfl)
        have hz1046 : gr ≤ gr982 ∧ rg981 ≤ 625 ∧ rg981 ≤ gr982 ∧ (rg981 = 625 ∨ rg981 = gr982) := (by omega)
        have hz1047 : EnV (B974 26) (B974 27) nd vr hd c0 sl := h999
        have hz1048 : StW pb.1 pb.2.1 pb.2.2.1 pb.2.2.2 Ag Ag980 Q9 Q984 pd pd985 m9 dp979 lw cs cs975 as9 as976 hd hd sl sl gr gr982 (B974 16) (B974 17) (B974 18) (B974 19) [] := hst1030
        have hz1049 : LpS K973 (B974 16) (B974 17) Ag980 pd985 lp9 lw cs975 hd sl hdL slL xb986 xc987 := h1001
        have hz1050 : PdS pd pd985 xb xb986 xc xc987 [] cs cs975 := hpd1032
        have hz1051 : RgQx B974 Q984 gr982 nd := h1003
        have hz1052 : LpR K973 lp9 rL := h1004
        have hO : OKP G h0 a (upd (upd (upd (upd (upd (upd (upd (upd (upd (upd F 2 (nI sz)) 5 (nI cs975)) 6 (nI rg981)) 7 (nI hd)) 8 (nI dp979)) 12 (nI vr)) 13 as976) 14 wt977) 15 wf978) 16 ls983) (updR (updR (updR R 2 (.ref pq)) 3 (.ref mq)) 4 (va_rf lp9)) Z B974 J K973 w := hO.to rfl
        refine W.widen (k := ((rE (g 2 q) - rS (g 2 q)) + 1)) (n := (6 * (rE (g 2 q) - rS (g 2 q)) + 6)) (by omega) (by omega) ?_
        have hzz1 : H.size ≤ s.heap.size + ((rE (g 2 q) - rS (g 2 q))) := (by have z : (rE (g 2 q) - rS (g 2 q)) ≤ (rE (g 2 q) - rS (g 2 q)) := (by omega); omega)
        have hzz2 : hSl H ≤ hSl s.heap + ((6 * (rE (g 2 q) - rS (g 2 q)))) := (by have z : (6 * (rE (g 2 q) - rS (g 2 q))) ≤ (6 * (rE (g 2 q) - rS (g 2 q))) := (by omega); omega)
        exact W.vret hx hb hr (fun t99 ht99 hW99 => ⟨⟨_, (w, (K973, B974, cs975, as976, wt977, wf978, vr, hd, dp979, Ag980, sl, rg981, gr982, ls983, Q984, pd985, xb986, xc987)), rfl, ⟨rfl, hz1033, hz1034, hz1035, hz1036, hz1037, hz1038, hz1039, hz1040, hz1041, hz1042, hz1043, hz1044, hz1045, hz1046, hz1047, hz1048, hz1049, hz1050, hz1051, hz1052, hO⟩, by rw [ht99]; exact hP, hD, by rw [ht99]; exact hzz1, by rw [ht99]; exact hzz2⟩, hS.F ht99⟩) hS.2.2 dX0_statement_241
      · skip
        have hcz := hnd.2.1 2 q3 (by decide) hos2
        have ht2 := hcz.1
        have hv2 : 1 ≤ g 0 q3 ∧ g 0 q3 + 1 ≤ n := ⟨hcz.2.1, (by have z := hcz.2.2.1; omega)⟩
        refine lv_aload_n hx hb dX0_statement_152 rfl (lv_at hl 2 rfl) ?_
        refine lv_aload_n hx hb dX0_statement_153 rfl (lv_at hl 1 rfl) ?_
        have htl1053 : tlE g q = rE (g 2 q) - rS (g 2 q) := rfl
        have hO : OKP G h0 a (upd (upd (upd (upd (upd (upd (upd (upd (upd (upd (upd (upd (upd (upd (upd (upd (upd F 2 (nI sz)) 5 (nI cs)) 6 (nI rg)) 7 (nI hd)) 8 (nI dp)) 12 (nI vr)) 13 as9) 16 ls9) 5 (nI cs2)) 2 (nI sz)) 5 (nI cs2)) 6 (nI rg)) 7 (nI hd)) 8 (nI dp)) 12 (nI vr)) 13 as9) 16 ls9) (updR (updR (updR (updR (updR (updR R 2 (.ref pq)) 3 (.ref mq)) 4 (va_rf lp9)) 2 (.ref pq)) 3 (.ref mq)) 4 (va_rf lp9)) Z B2 J K w := hO.to rfl
        obtain ⟨_, qr1057, hqr1058⟩ := hO.2.1 24 _ (sg_24 G h0 a _ _ _ _ _)
        refine pn_V0 (G := G) (As := [.ref q]) (rest := []) hx hb hml hown hq hE hX pX0_al hP hD hS hA hl.1 (Y_tryL l G h0 a (upd (upd (upd (upd (upd (upd (upd (upd (upd F 2 (nI sz)) 5 (nI cs)) 6 (nI rg)) 7 (nI hd)) 8 (nI dp)) 12 (nI vr)) 13 as9) 16 ls9) 5 (nI cs2)) (updR (updR (updR R 2 (.ref pq)) 3 (.ref mq)) 4 (va_rf lp9)) Z B2 J K w pq dr ml nd nm cp it s9 q mq cs2 vr sz n q1 q3 hd dp rg ls9 lp9 g rk pb A2 Q9 pd sl m9 lw c0 rt gr as9 hdL slL xb xc rL (by omega) (BdE.wp BdE.rfl hwp) (BdE.pt BdE.rfl hwp hps) (BdE.rko BdE.rfl hrk) (by omega) (by omega) hng2 hmq hqT hqL hrt hrv (by omega) (by omega) (by omega) (LpO.be BdE.rfl hlo) (EkA.be BdE.rfl (hbr2 7 (by decide)) (hbr2 11 (by decide)) hek) (OwC.be BdE.rfl hmq hdr0 hcO) (NaB.be BdE.rfl BeF.rfl hwp hps.2.1 hdr0 (hbr2 11 (by decide)) hna) hen2 hao hst2.1 (by omega) (by omega) (by omega) (SkA.be BdE.rfl (hbr2 11 (by decide)) hsk) hlp2 hrq2 (fun z9 => hrL (hst2.2.2.2.2.2.1 z9)) hlr hc0 ht0 hv0 hos2 ht2 hv2 hkd ist hO hl0) (gV pw_339 pw_340 pw_341 pw_63 pw_348) hV_X0_tryStatement qr1057 0 hqr1058 rfl rfl rfl (Nat.le_of_ble_eq_true rfl) dX0_statement_154 ⟨(by show 0 + ((rE (g 2 q) - rS (g 2 q)) + 1) ≤ ((rE (g 2 q) - rS (g 2 q)) + 1); omega), (by show 0 + (6 * (rE (g 2 q) - rS (g 2 q)) + 6) ≤ (6 * (rE (g 2 q) - rS (g 2 q)) + 6); omega)⟩ ⟨(by show (5 * n + 46) + 1 ≤ (5 * n + 50); omega), (by show 8 + (11 + 11) + (200 * n + 1120) ≤ (200 * n + 1200); omega)⟩ (fun v1056 u1054 H locs hw1055 hP hD hS => ?_) (fun ux ce9 q9 H9 locs9 hux hP9 hD9 hS9 hce hcv hcl => pb_out ux (ThQ.up (Thx.same (Thx.same (Thx.same (Thx.same (Thx.same (Thx.same (Thx.same (Thx.same (Thx.f (Bth.thx hbb2) (by omega)) rfl) rfl) rfl) rfl) rfl) rfl) rfl) rfl) (show RhX (updR (updR (updR R 2 (.ref pq)) 3 (.ref mq)) 4 (va_rf lp9)) (updR (updR (updR (updR (updR (updR R 2 (.ref pq)) 3 (.ref mq)) 4 (va_rf lp9)) 2 (.ref pq)) 3 (.ref mq)) 4 (va_rf lp9)) from fun k9 hk9 => by unfold updR; simp only [show ¬ k9 = 1 by omega, show ¬ k9 = 2 by omega, show ¬ k9 = 3 by omega, show ¬ k9 = 4 by omega, if_false]) hux) hnt hlocks hce hcv hcl hP9 hD9 hS9 (by show 0 + ((rE (g 2 q) - rS (g 2 q)) + 1) ≤ ((rE (g 2 q) - rS (g 2 q)) + 1); omega) (by show 0 + (6 * (rE (g 2 q) - rS (g 2 q)) + 6) ≤ (6 * (rE (g 2 q) - rS (g 2 q)) + 6); omega))
        obtain ⟨w, K1059, B1060, cs1061, as1062, wt1063, wf1064, dp1065, Ag1066, rg1067, gr1068, ls1069, Q1070, pd1071, xb1072, xc1073⟩ := u1054
        obtain ⟨hw1055, h1074, h1075, h1076, h1077, h1078, h1079, h1080, h1081, h1082, h1083, h1084, h1085, h1086, h1087, h1088, h1089, h1090, hO⟩ := hw1055
        have h1074 : SmW B2 B1060 cs2 := h1074
        have h1075 : BdE K K1059 := h1075
        have h1076 : BeF K K1059 := h1076
        have h1077 : BeL K K1059 lp9 := h1077
        have h1078 : Bth B2 B1060 := h1078
        have h1079 : BtR B2 B1060 := h1079
        have h1080 : cs2 ≤ cs1061 ∧ cs1061 + 1 ≤ cs2 + 2 * tlE g q := h1080
        have h1081 : dp ≤ dp1065 ∧ dp1065 ≤ 71 := h1081
        have h1082 : AsO as1062 := h1082
        have h1083 : VrS B2 B1060 vr := h1083
        have h1084 : gr ≤ gr1068 ∧ rg1067 ≤ 625 ∧ rg1067 ≤ gr1068 ∧ (rg1067 = 625 ∨ rg1067 = gr1068) := h1084
        have h1085 : EnV (B1060 26) (B1060 27) nd vr hd c0 sl := h1085
        have h1086 : StW pb.1 pb.2.1 pb.2.2.1 pb.2.2.2 A2 Ag1066 Q9 Q1070 pd pd1071 m9 dp1065 lw cs2 cs1061 as9 as1062 hd hd sl sl gr gr1068 (B1060 16) (B1060 17) (B1060 18) (B1060 19) [] := h1086
        have h1087 : LpS K1059 (B1060 16) (B1060 17) Ag1066 pd1071 lp9 lw cs1061 hd sl hdL slL xb1072 xc1073 := h1087
        have h1088 : PdS pd pd1071 xb xb1072 xc xc1073 [] cs2 cs1061 := h1088
        have h1089 : RgQx B1060 Q1070 gr1068 nd := h1089
        have h1090 : LpR K1059 lp9 rL := h1090
        obtain rfl : v1056 = none := hw1055
        have hf1091 : K1059.1 pq = 7 := (BdE.T h1075 hp1 (by decide))
        have hf1092 : K1059.2.2.1 18 pq = some (a 1) := (BdE.C h1075 (by rw [hp1]; decide) 18).trans hp2
        have hf1093 : K1059.2.2.1 14 pq = some dr := (BdE.C h1075 (by rw [hp1]; decide) 14).trans hp3
        have hf1094 : K1059.1 dr = 8 := (BdE.T h1075 hp4 (by decide))
        have hf1095 : K1059.2.2.1 15 pq = some ml := (BdE.C h1075 (by rw [hp1]; decide) 15).trans hp5
        have hf1096 : K1059.1 ml = 5 := (BdE.T h1075 hp6 (by decide))
        have hf1097 : K1059.2.1 24 pq = (nI nd) := (BdE.I h1075 (by rw [hp1]; decide) (by decide) (by decide)).trans hp8
        have hf1098 : K1059.1 q = 1 := (BdE.T h1075 hqT (by decide))
        have hf1099 : K1059.1 mq = 3 := (BdE.T h1075 hmq (by decide))
        have hf1100 : K1059.2.1 10 mq = (nI rt) := (BdE.I h1075 (by rw [hmq]; decide) (by decide) (by decide)).trans hrt
        have hf1101 : K1059.2.1 0 q = 32 := (BdE.I h1075 (by rw [hqT]; decide) (by decide) (by decide)).trans hkd
        have hf1102 : K1059.2.2.1 0 q = some q1 := (BdE.C h1075 (by rw [hqT]; decide) 0).trans hc0
        have hf1103 : K1059.1 q1 = 1 := (BdE.T h1075 ht0 (by decide))
        have hf1104 : K1059.2.2.1 2 q = some q3 := (BdE.C h1075 (by rw [hqT]; decide) 2).trans hos2
        have hf1105 : K1059.1 q3 = 1 := (BdE.T h1075 ht2 (by decide))
        have hO : OKP G h0 a (upd (upd (upd (upd (upd (upd (upd (upd (upd (upd F 2 (nI sz)) 5 (nI cs1061)) 6 (nI rg1067)) 7 (nI hd)) 8 (nI dp1065)) 12 (nI vr)) 13 as1062) 14 wt1063) 15 wf1064) 16 ls1069) (updR (updR (updR R 2 (.ref pq)) 3 (.ref mq)) 4 (va_rf lp9)) Z B1060 J K1059 w := hO.to rfl
        refine W.widen (k := (rE (g 2 q) - rS (g 2 q))) (n := (6 * (rE (g 2 q) - rS (g 2 q)))) (by show 0 + (rE (g 2 q) - rS (g 2 q)) ≤ (rE (g 2 q) - rS (g 2 q)); omega) (by show 0 + (6 * (rE (g 2 q) - rS (g 2 q))) ≤ (6 * (rE (g 2 q) - rS (g 2 q))); omega) ?_
        refine W.eq (g2 := F0 m 157 ls []) rfl ?_
        have hbe1106 := BdE.trans BdE.rfl h1075
        have hbb1107 : Bth B B1060 := Bth.trans (show Thx (upd (upd (upd (upd (upd (upd (upd (upd F 2 (nI sz)) 5 (nI cs)) 6 (nI rg)) 7 (nI hd)) 8 (nI dp)) 12 (nI vr)) 13 as9) 16 ls9) (upd (upd (upd (upd (upd (upd (upd (upd (upd F 2 (nI sz)) 5 (nI cs)) 6 (nI rg)) 7 (nI hd)) 8 (nI dp)) 12 (nI vr)) 13 as9) 16 ls9) 5 (nI cs2)) B B2 from (Thx.f (Bth.thx hbb2) (by omega))).2 h1078
        have hng1108 : Nng (B1060 18) := h1078.2 hng2
        have hsw1109 : ∀ x9 : Nat, x9 < cs → (B1060 16) x9 = B 16 x9 := fun x9 hx9 => ((h1074 x9 (by omega)).1).trans ((fun x9 hx9 => (hsw2 x9 hx9).1) x9 hx9)
        have hsw1110 : ∀ x9 : Nat, x9 < cs → (B1060 17) x9 = B 17 x9 := fun x9 hx9 => ((h1074 x9 (by omega)).2.1).trans ((fun x9 hx9 => (hsw2 x9 hx9).2.1) x9 hx9)
        have hsw1111 : ∀ x9 : Nat, x9 < cs → (B1060 18) x9 = B 18 x9 := fun x9 hx9 => ((h1074 x9 (by omega)).2.2.1).trans ((fun x9 hx9 => (hsw2 x9 hx9).2.2.1) x9 hx9)
        have hsw1112 : ∀ x9 : Nat, x9 < cs → (B1060 19) x9 = B 19 x9 := fun x9 hx9 => ((h1074 x9 (by omega)).2.2.2).trans ((fun x9 hx9 => (hsw2 x9 hx9).2.2.2) x9 hx9)
        have hbf1113 := BeF.trans BeF.rfl h1076 BdE.rfl
        have hbl1115 : BeL K K1059 lp9 := BeL.trans BeL.rfl h1077 BdE.rfl
        have hbr1114 : BtR B B1060 := BtR.trans hbr2 h1079
        have hvs1116 : VrS B B1060 vr := VrS.trans hvs2 h1083 (by omega)
        have hst1117 : StW pb.1 pb.2.1 pb.2.2.1 pb.2.2.2 Ag Ag1066 Q9 Q1070 pd pd1071 m9 dp1065 lw cs cs1061 as9 as1062 hd hd sl sl gr gr1068 (B1060 16) (B1060 17) (B1060 18) (B1060 19) ([] : List Nat) := StW.seq hst2 (by omega) (fun x9 hx9 => ⟨(h1074 x9 hx9).1, (h1074 x9 hx9).2.1⟩) h1086
        have hsn1118 := hst1117.1.2.2.2.1
        have hpd1119 : PdS pd pd1071 xb xb1072 xc xc1073 ([] : List Nat) cs cs1061 := PdS.call (PdS.rfl (cs1 := cs2)) h1088 (by omega) (by omega)
        refine lv_goto (tgt := 241) hx hb dX0_statement_157 (by decide) ?_
        refine W_size (fun hz1 hz2 => ?_)
        refine vx_ret ?_
        have hz1120 : SmW B B1060 cs := (fun x9 hx9 => ⟨hsw1109 x9 hx9, hsw1110 x9 hx9, hsw1111 x9 hx9, hsw1112 x9 hx9⟩)
        have hz1121 : BdE K K1059 := hbe1106
        have hz1122 : BeF K K1059 := hbf1113
        have hz1123 : BeL K K1059 lp9 := hbl1115
        have hz1124 : Bth B B1060 := (show Thx (upd (upd (upd (upd (upd (upd (upd (upd F 2 (nI sz)) 5 (nI cs)) 6 (nI rg)) 7 (nI hd)) 8 (nI dp)) 12 (nI vr)) 13 as9) 16 ls9) (upd (upd (upd (upd (upd (upd (upd (upd (upd (upd (upd (upd (upd (upd (upd F 2 (nI sz)) 5 (nI cs)) 6 (nI rg)) 7 (nI hd)) 8 (nI dp)) 12 (nI vr)) 13 as9) 16 ls9) 5 (nI cs1061)) 6 (nI rg1067)) 8 (nI dp1065)) 13 as1062) 14 wt1063) 15 wf1064) 16 ls1069) B B1060 from (Thx.f (Thx.f (Thx.f (Thx.f (Thx.f (Thx.f (Thx.f (Bth.thx hbb1107) (by omega)) (by omega)) (by omega)) (by omega)) (by omega)) (by omega)) (by omega))).2
        have hz1125 : BtR B B1060 := hbr1114
        have hz1126 : cs ≤ cs1061 ∧ cs1061 + 0 ≤ cs + 2 * tlE g q := (by omega)
        have hz1127 : dp ≤ dp1065 ∧ dp1065 ≤ 71 := (by omega)
        have hz1128 : vr ≤ vr ∧ vr ≤ 30 ∧ hd + vr = hd + vr := (by omega)
        have hz1129 : AsO as1062 := h1082
        have hz1130 : VrS B B1060 vr := hvs1116
        have hz1131 : cs < cs1061 ∨ (hd = hd ∧ sl = sl) := (Or.inr ⟨rfl, rfl⟩)
        have hz1132 : ¬ K.2.1 0 q = 22 → hd = hd := (fun _ => rfl)
        have hz1133 : gr ≤ gr1068 ∧ rg1067 ≤ 625 ∧ rg1067 ≤ gr1068 ∧ (rg1067 = 625 ∨ rg1067 = gr1068) := (by omega)
        have hz1134 : EnV (B1060 26) (B1060 27) nd vr hd c0 sl := h1085
        have hz1135 : StW pb.1 pb.2.1 pb.2.2.1 pb.2.2.2 Ag Ag1066 Q9 Q1070 pd pd1071 m9 dp1065 lw cs cs1061 as9 as1062 hd hd sl sl gr gr1068 (B1060 16) (B1060 17) (B1060 18) (B1060 19) [] := hst1117
        have hz1136 : LpS K1059 (B1060 16) (B1060 17) Ag1066 pd1071 lp9 lw cs1061 hd sl hdL slL xb1072 xc1073 := h1087
        have hz1137 : PdS pd pd1071 xb xb1072 xc xc1073 [] cs cs1061 := hpd1119
        have hz1138 : RgQx B1060 Q1070 gr1068 nd := h1089
        have hz1139 : LpR K1059 lp9 rL := h1090
        have hO : OKP G h0 a (upd (upd (upd (upd (upd (upd (upd (upd (upd (upd F 2 (nI sz)) 5 (nI cs1061)) 6 (nI rg1067)) 7 (nI hd)) 8 (nI dp1065)) 12 (nI vr)) 13 as1062) 14 wt1063) 15 wf1064) 16 ls1069) (updR (updR (updR R 2 (.ref pq)) 3 (.ref mq)) 4 (va_rf lp9)) Z B1060 J K1059 w := hO.to rfl
        refine W.widen (k := ((rE (g 2 q) - rS (g 2 q)) + 1)) (n := (6 * (rE (g 2 q) - rS (g 2 q)) + 6)) (by omega) (by omega) ?_
        have hzz1 : H.size ≤ s.heap.size + ((rE (g 2 q) - rS (g 2 q))) := (by have z : (rE (g 2 q) - rS (g 2 q)) ≤ (rE (g 2 q) - rS (g 2 q)) := (by omega); omega)
        have hzz2 : hSl H ≤ hSl s.heap + ((6 * (rE (g 2 q) - rS (g 2 q)))) := (by have z : (6 * (rE (g 2 q) - rS (g 2 q))) ≤ (6 * (rE (g 2 q) - rS (g 2 q))) := (by omega); omega)
        exact W.vret hx hb hr (fun t99 ht99 hW99 => ⟨⟨_, (w, (K1059, B1060, cs1061, as1062, wt1063, wf1064, vr, hd, dp1065, Ag1066, sl, rg1067, gr1068, ls1069, Q1070, pd1071, xb1072, xc1073)), rfl, ⟨rfl, hz1120, hz1121, hz1122, hz1123, hz1124, hz1125, hz1126, hz1127, hz1128, hz1129, hz1130, hz1131, hz1132, hz1133, hz1134, hz1135, hz1136, hz1137, hz1138, hz1139, hO⟩, by rw [ht99]; exact hP, hD, by rw [ht99]; exact hzz1, by rw [ht99]; exact hzz2⟩, hS.F ht99⟩) hS.2.2 dX0_statement_241
    by_cases h1140 : kd = 33
    · subst h1140
      refine lv_tableIn (tgt := 183) (off := 147) hx hb dX0_statement_36 (by decide) (by decide) (by decide) (by decide) ?_
      obtain ⟨q1, hc0, ht0, hw0⟩ := NdO.ch hnd (f := 0) (by decide) (hnd.1.1 (by rw [hkd]; decide))
      have hv0 : 1 ≤ g 0 q1 ∧ g 0 q1 + 1 ≤ n := ⟨hw0.1, (by have z := hw0.2; omega)⟩
      obtain ⟨hes1, htl9⟩ := hskq.2.2.2.2.2.2.2.1 (by rw [hkd]; decide) q1 hc0
      have hes3 := hes1.2
      have hes4 := hes1.1.1
      have hes5 := hes1.1.2
      refine lv_aload_n hx hb dX0_statement_183 rfl (lv_at hl 2 rfl) ?_
      refine lv_aload_n hx hb dX0_statement_184 rfl (lv_at hl 1 rfl) ?_
      refine p_get (v := .ref q1) (C := RX7) (Tc := TX7) (N := 11) (ci := 13) hx hb hq pin_wsX70 hown hE hP hO (by rw [hqT]; decide) (rep_1 hqT) rfl 6 (by decide) (hq _ pw_180) (fun _ h9 => h9) (congrArg (fun z => some (va_rf z)) hc0) dX0_statement_185 ?_
      refine lv_aload_n hx hb dX0_statement_188 rfl (lv_at hl 2 rfl) ?_
      refine lv_aload_n hx hb dX0_statement_189 rfl (lv_at hl 1 rfl) ?_
      refine p_get (v := .ref q1) (C := RX7) (Tc := TX7) (N := 11) (ci := 13) hx hb hq pin_wsX70 hown hE hP hO (by rw [hqT]; decide) (rep_1 hqT) rfl 6 (by decide) (hq _ pw_180) (fun _ h9 => h9) (congrArg (fun z => some (va_rf z)) hc0) dX0_statement_190 ?_
      have hO : OKP G h0 a (upd (upd (upd (upd (upd (upd (upd (upd (upd (upd (upd (upd (upd (upd F 2 (nI sz)) 5 (nI cs)) 6 (nI rg)) 7 (nI hd)) 8 (nI dp)) 12 (nI vr)) 13 as9) 16 ls9) 5 (nI cs2)) 2 (nI sz)) 5 (nI cs2)) 7 (nI hd)) 12 (nI vr)) 13 as9) (updR (updR (updR (updR (updR R 2 (.ref pq)) 3 (.ref mq)) 4 (va_rf lp9)) 2 (.ref pq)) 3 (.ref mq)) Z B2 J K w := hO.to rfl
      obtain ⟨_, qr1144, hqr1145⟩ := hO.2.1 24 _ (sg_24 G h0 a _ _ _ _ _)
      refine pn_V0 (G := G) (As := [.ref q1]) (rest := [.ref q1, .ref (a 4)]) hx hb hml hown hq hE hX pX0_al hP hD hS hA hl.1 ((PY_all l G (n - 1)) h0 a (upd (upd (upd (upd (upd (upd (upd (upd (upd F 2 (nI sz)) 5 (nI cs)) 6 (nI rg)) 7 (nI hd)) 8 (nI dp)) 12 (nI vr)) 13 as9) 16 ls9) 5 (nI cs2)) (updR (updR (updR R 2 (.ref pq)) 3 (.ref mq)) 4 (va_rf lp9)) Z B2 J K w pq dr ml nd nm cp it s9 q1 mq cs2 vr sz g rk pb A2 pd sl ([] : List Nat) m9 dp lw hd c0 as9 True (by omega) (BdE.wp BdE.rfl hwp) (BdE.pt BdE.rfl hwp hps) (BdE.rko BdE.rfl hrk) (by omega) (by omega) hng2 hmq ht0 ⟨hv0.1, (by have z9 := hv0; omega)⟩ (EkA.be BdE.rfl (hbr2 7 (by decide)) (hbr2 11 (by decide)) hek) (OwC.be BdE.rfl hmq hdr0 hcO) (NaB.be BdE.rfl BeF.rfl hwp hps.2.1 hdr0 (hbr2 11 (by decide)) hna) hen2 (fun _ => hst2.1) (by omega) (by show 0 + ndE g q1 ≤ 248; omega) hes1.1 hO hl0) (gV pw_173 pw_174 pw_175 pw_63 pw_224) hV_X0_value qr1144 0 hqr1145 rfl rfl rfl (Nat.le_of_ble_eq_true rfl) dX0_statement_193 ⟨(by show 0 + 1 ≤ ((rE (g 2 q) - rS (g 2 q)) + 1); omega), (by show 0 + 6 ≤ (6 * (rE (g 2 q) - rS (g 2 q)) + 6); omega)⟩ ⟨(by show (5 * (n - 1) + 34) + 1 ≤ (5 * n + 50); omega), (by show 8 + (3 + 11) + (200 * (n - 1) + 600) ≤ (200 * n + 1200); omega)⟩ (fun v1143 u1141 H locs hw1142 hP hD hS => ?_) (fun ux ce9 q9 H9 locs9 hux hP9 hD9 hS9 hce hcv hcl => pb_out ux (ThQ.up (Thx.same (Thx.same (Thx.same (Thx.same (Thx.same (Thx.f (Bth.thx hbb2) (by omega)) rfl) rfl) rfl) rfl) rfl) (show RhX (updR (updR (updR R 2 (.ref pq)) 3 (.ref mq)) 4 (va_rf lp9)) (updR (updR (updR (updR (updR R 2 (.ref pq)) 3 (.ref mq)) 4 (va_rf lp9)) 2 (.ref pq)) 3 (.ref mq)) from fun k9 hk9 => by unfold updR; simp only [show ¬ k9 = 1 by omega, show ¬ k9 = 2 by omega, show ¬ k9 = 3 by omega, show ¬ k9 = 4 by omega, if_false]) hux) hnt hlocks hce hcv hcl hP9 hD9 hS9 (by show 0 + 1 ≤ ((rE (g 2 q) - rS (g 2 q)) + 1); omega) (by show 0 + 6 ≤ (6 * (rE (g 2 q) - rS (g 2 q)) + 6); omega))
      obtain ⟨w, K1146, B1147, cs1148, as1149, wt1150, wf1151, t1152, Ag1153, u1154⟩ := u1141
      obtain ⟨hw1142, h1155, h1156, h1157, h1158, h1159, h1160, h1161, h1162, h1163, h1164, h1165, h1166, hO⟩ := hw1142
      have h1155 : SmW B2 B1147 cs2 := h1155
      have h1156 : BdE K K1146 := h1156
      have h1157 : BeF K K1146 := h1157
      have h1158 : BeL K K1146 none := h1158
      have h1159 : BeI K K1146 g q1 := h1159
      have h1160 : Bth B2 B1147 := h1160
      have h1161 : BeR B2 B1147 := h1161
      have h1162 : t1152 < 128 := h1162
      have h1163 : cs2 ≤ cs1148 ∧ cs1148 + 0 ≤ cs2 + 2 * tlE g q1 := h1163
      have h1164 : AsE as9 as1149 ∧ AsE as9 wt1150 ∧ AsE as9 wf1151 := h1164
      have h1165 : True → VaQ pb B2 B1147 A2 Ag1153 pd m9 dp lw cs2 cs1148 as9 as1149 wt1150 wf1151 hd sl ([] : List Nat) t1152 u1154 (K.2.1 0 q1) := h1165
      have h1166 : CaK (K.2.1 0 q1) → cs1148 + 2 ≤ cs2 + 2 * tlE g q1 := h1166
      obtain rfl : v1143 = some (.int (nI t1152)) := hw1142
      have hf1167 : K1146.1 pq = 7 := (BdE.T h1156 hp1 (by decide))
      have hf1168 : K1146.2.2.1 18 pq = some (a 1) := (BdE.C h1156 (by rw [hp1]; decide) 18).trans hp2
      have hf1169 : K1146.2.2.1 14 pq = some dr := (BdE.C h1156 (by rw [hp1]; decide) 14).trans hp3
      have hf1170 : K1146.1 dr = 8 := (BdE.T h1156 hp4 (by decide))
      have hf1171 : K1146.2.2.1 15 pq = some ml := (BdE.C h1156 (by rw [hp1]; decide) 15).trans hp5
      have hf1172 : K1146.1 ml = 5 := (BdE.T h1156 hp6 (by decide))
      have hf1173 : K1146.2.1 24 pq = (nI nd) := (BdE.I h1156 (by rw [hp1]; decide) (by decide) (by decide)).trans hp8
      have hf1174 : K1146.1 q = 1 := (BdE.T h1156 hqT (by decide))
      have hf1175 : K1146.1 mq = 3 := (BdE.T h1156 hmq (by decide))
      have hf1176 : K1146.2.1 10 mq = (nI rt) := (BdE.I h1156 (by rw [hmq]; decide) (by decide) (by decide)).trans hrt
      have hf1177 : K1146.2.1 0 q = 33 := (BdE.I h1156 (by rw [hqT]; decide) (by decide) (by decide)).trans hkd
      have hf1178 : K1146.2.2.1 0 q = some q1 := (BdE.C h1156 (by rw [hqT]; decide) 0).trans hc0
      have hf1179 : K1146.1 q1 = 1 := (BdE.T h1156 ht0 (by decide))
      have hO : OKP G h0 a (upd (upd (upd (upd (upd (upd (upd (upd (upd (upd F 2 (nI sz)) 5 (nI cs1148)) 6 (nI rg)) 7 (nI hd)) 8 (nI dp)) 12 (nI vr)) 13 as1149) 14 wt1150) 15 wf1151) 16 ls9) (updR (updR (updR R 2 (.ref pq)) 3 (.ref mq)) 4 (va_rf lp9)) Z B1147 J K1146 w := hO.to rfl
      refine W.widen (k := 0) (n := 0) (by show 0 + 0 ≤ 0; omega) (by show 0 + 0 ≤ 0; omega) ?_
      refine W.eq (g2 := F0 m 196 ls [.int (nI t1152), .ref q1, .ref (a 4)]) rfl ?_
      have hbe1180 := BdE.trans BdE.rfl h1156
      have hbb1181 : Bth B B1147 := Bth.trans (show Thx (upd (upd (upd (upd (upd (upd (upd (upd F 2 (nI sz)) 5 (nI cs)) 6 (nI rg)) 7 (nI hd)) 8 (nI dp)) 12 (nI vr)) 13 as9) 16 ls9) (upd (upd (upd (upd (upd (upd (upd (upd (upd F 2 (nI sz)) 5 (nI cs)) 6 (nI rg)) 7 (nI hd)) 8 (nI dp)) 12 (nI vr)) 13 as9) 16 ls9) 5 (nI cs2)) B B2 from (Thx.f (Bth.thx hbb2) (by omega))).2 h1160
      have hng1182 : Nng (B1147 18) := h1160.2 hng2
      have hsw1183 : ∀ x9 : Nat, x9 < cs → (B1147 16) x9 = B 16 x9 := fun x9 hx9 => ((h1155 x9 (by omega)).1).trans ((fun x9 hx9 => (hsw2 x9 hx9).1) x9 hx9)
      have hsw1184 : ∀ x9 : Nat, x9 < cs → (B1147 17) x9 = B 17 x9 := fun x9 hx9 => ((h1155 x9 (by omega)).2.1).trans ((fun x9 hx9 => (hsw2 x9 hx9).2.1) x9 hx9)
      have hsw1185 : ∀ x9 : Nat, x9 < cs → (B1147 18) x9 = B 18 x9 := fun x9 hx9 => ((h1155 x9 (by omega)).2.2.1).trans ((fun x9 hx9 => (hsw2 x9 hx9).2.2.1) x9 hx9)
      have hsw1186 : ∀ x9 : Nat, x9 < cs → (B1147 19) x9 = B 19 x9 := fun x9 hx9 => ((h1155 x9 (by omega)).2.2.2).trans ((fun x9 hx9 => (hsw2 x9 hx9).2.2.2) x9 hx9)
      have hbf1187 := BeF.trans BeF.rfl h1157 BdE.rfl
      have hbl1189 : BeL K K1146 lp9 := BeL.trans BeL.rfl (BeL.any h1158) BdE.rfl
      have hbr1188 : BtR B B1147 := BtR.trans hbr2 (BeR.bt h1161)
      have hen1190 : EnV (B1147 26) (B1147 27) nd vr hd c0 sl := EnV.of (h1161 26 (by decide)) (h1161 27 (by decide)) hen2
      have hvs1191 : VrS B B1147 vr := fun i9 hi9 => ⟨(congrFun (h1161 26 (by decide)) i9).trans (hvs2 i9 hi9).1, (congrFun (h1161 27 (by decide)) i9).trans (hvs2 i9 hi9).2⟩
      have hao1192 : AsO as1149 ∧ AsO wt1150 ∧ AsO wf1151 := ⟨AsE.aso h1164.1 hao, AsE.aso h1164.2.1 hao, AsE.aso h1164.2.2 hao⟩
      have hrq1193 : RgQx B1147 Q9 gr nd := RgQx.ber hrq2 (h1161 20 (by decide)) (h1161 21 (by decide)) (h1161 22 (by decide)) (h1161 23 (by decide)) (h1161 24 (by decide))
      refine lv_bipush (v := 60) hx hb dX0_statement_196 (by decide) ?_
      have hO : OKP G h0 a (upd (upd (upd (upd (upd (upd (upd (upd (upd (upd (upd (upd (upd F 2 (nI sz)) 5 (nI cs)) 6 (nI rg)) 7 (nI hd)) 8 (nI dp)) 12 (nI vr)) 13 as9) 16 ls9) 5 (nI cs1148)) 13 as1149) 14 wt1150) 15 wf1151) 2 (nI sz)) (updR (updR (updR (updR R 2 (.ref pq)) 3 (.ref mq)) 4 (va_rf lp9)) 2 (.ref pq)) Z B1147 J K1146 w := hO.to rfl
      obtain ⟨_, qr1197, hqr1198⟩ := hO.2.1 24 _ (sg_24 G h0 a _ _ _ _ _)
      refine pn_V0 (G := G) (As := [.ref q1, .int (nI t1152), .int (nI 60)]) (rest := []) hx hb hml hown hq hE hX pX0_al hP hD hS hA hl.1 (Y_fit l G h0 a (upd (upd (upd (upd (upd (upd (upd (upd (upd (upd (upd (upd F 2 (nI sz)) 5 (nI cs)) 6 (nI rg)) 7 (nI hd)) 8 (nI dp)) 12 (nI vr)) 13 as9) 16 ls9) 5 (nI cs1148)) 13 as1149) 14 wt1150) 15 wf1151) (updR (updR (updR R 2 (.ref pq)) 3 (.ref mq)) 4 (va_rf lp9)) Z B1147 J K1146 w pq dr ml nd q1 sz t1152 60 g pb (by omega) (BdE.pt hbe1180 hwp hps).1 (BdE.pt hbe1180 hwp hps).2.1 hf1179 (by omega) hna.1.1 (NaB.be hbe1180 hbf1187 hwp hps.2.1 hdr0 (hbr1188 11 (by decide)) hna).1.2.2 hO hl0) (gV pw_176 pw_177 pw_178 pw_63 pw_114) hV_X0_fit qr1197 0 hqr1198 rfl rfl rfl (Nat.le_of_ble_eq_true rfl) dX0_statement_198 ⟨(by show 0 + 1 ≤ ((rE (g 2 q) - rS (g 2 q)) + 1); omega), (by show 0 + 6 ≤ (6 * (rE (g 2 q) - rS (g 2 q)) + 6); omega)⟩ ⟨(by show 7 + 1 ≤ (5 * n + 50); omega), (by show 8 + (4 + 11) + 122 ≤ (200 * n + 1200); omega)⟩ (fun v1196 u1194 H locs hw1195 hP hD hS => ?_) (fun ux ce9 q9 H9 locs9 hux hP9 hD9 hS9 hce hcv hcl => pb_out ux (ThQ.up (Thx.same (Thx.f (Thx.f (Thx.f (Thx.f (Bth.thx hbb1181) (by omega)) (by omega)) (by omega)) (by omega)) rfl) (show RhX (updR (updR (updR R 2 (.ref pq)) 3 (.ref mq)) 4 (va_rf lp9)) (updR (updR (updR (updR R 2 (.ref pq)) 3 (.ref mq)) 4 (va_rf lp9)) 2 (.ref pq)) from fun k9 hk9 => by unfold updR; simp only [show ¬ k9 = 1 by omega, show ¬ k9 = 2 by omega, show ¬ k9 = 3 by omega, show ¬ k9 = 4 by omega, if_false]) hux) hnt hlocks hce hcv hcl hP9 hD9 hS9 (by show 0 + 1 ≤ ((rE (g 2 q) - rS (g 2 q)) + 1); omega) (by show 0 + 6 ≤ (6 * (rE (g 2 q) - rS (g 2 q)) + 6); omega))
      obtain ⟨w, _⟩ := u1194
      obtain ⟨hw1195, h1199, hO⟩ := hw1195
      have h1199 : FtQ pb t1152 60 := h1199
      obtain rfl : v1196 = none := hw1195
      have hO : OKP G h0 a (upd (upd (upd (upd (upd (upd (upd (upd (upd (upd F 2 (nI sz)) 5 (nI cs1148)) 6 (nI rg)) 7 (nI hd)) 8 (nI dp)) 12 (nI vr)) 13 as1149) 14 wt1150) 15 wf1151) 16 ls9) (updR (updR (updR R 2 (.ref pq)) 3 (.ref mq)) 4 (va_rf lp9)) Z B1147 J K1146 w := hO.to rfl
      refine W.widen (k := 0) (n := 0) (by show 0 + 0 ≤ 0; omega) (by show 0 + 0 ≤ 0; omega) ?_
      refine W.eq (g2 := F0 m 201 ls []) rfl ?_
      have hst1200 : StW pb.1 pb.2.1 pb.2.2.1 pb.2.2.2 Ag Ag1153 Q9 Q9 pd pd m9 dp lw cs cs1148 as9 as1149 hd hd sl sl gr gr (B1147 16) (B1147 17) (B1147 18) (B1147 19) (u1154 :: ([] : List Nat)) := StW.ev hst2 (VaQ.ev (h1165 trivial) h1162 h1199.1)
      have hut1201 : UTb u1154 (nI t1152) as1149 wt1150 wf1151 := VaQ.ut (h1165 trivial) h1199.1
      have hevq1202 := VaQ.ev (h1165 trivial) h1162 h1199.1
      have hlp1203 : LpS K1146 (B1147 16) (B1147 17) Ag1153 pd lp9 lw cs1148 hd sl hdL slL xb xc := LpS.same hlp2 (fun lq9 e9 f9 _ _ => h1158 lq9 (LpO.be BdE.rfl hlo lq9 e9) (fun z => by cases z) f9) (fun z9 hz9 => ⟨(hevq1202.2.1 z9 hz9).1, (hevq1202.2.1 z9 hz9).2.1, (hevq1202.2.1 z9 hz9).2.2.2.2⟩) (fun _ h9 => h9) (fun z9 h9 => Nat.lt_of_lt_of_le (hlp2.1 z9 h9) (by omega)) (by omega) ⟨Nat.le_refl _, fun _ _ => rfl⟩
      have hpd1204 : PdS pd pd xb xb xc xc ([] : List Nat) cs cs1148 := PdS.wk (PdS.rfl (cs1 := cs2)) (by omega)
      have hlr1205 : LpR K1146 lp9 rL := LpR.same hlr (fun lq9 e9 f9 _ _ => h1158 lq9 (LpO.be BdE.rfl hlo lq9 e9) (fun z => by cases z) f9)
      refine lv_aload_n hx hb dX0_statement_201 rfl (lv_at hl 2 rfl) ?_
      refine c_get (v := .ref (a 2)) (C := RX0) (Tc := TX0) (N := 13) (ci := 0) hx hb hq pin_wsX00 hown hE hP hO 24 (sg_24 G h0 a _ _ _ _ _) rfl 1 (by decide) (hq _ pw_5) (fun _ h9 => h9) rfl dX0_statement_202 ?_
      refine lv_bipush (v := 13) hx hb dX0_statement_205 (by decide) ?_
      refine lv_iconst (v := 0) hx hb dX0_statement_207 (by decide) ?_
      refine lv_iconst (v := 0) hx hb dX0_statement_208 (by decide) ?_
      have hO : OKW G h0 a (upd (upd (upd (upd (upd (upd (upd (upd (upd (upd (upd (upd F 2 (nI sz)) 5 (nI cs1148)) 6 (nI rg)) 7 (nI hd)) 8 (nI dp)) 12 (nI vr)) 13 as1149) 14 wt1150) 15 wf1151) 16 ls9) 5 (nI cs1148)) 7 (nI hd)) (updR (updR (updR R 2 (.ref pq)) 3 (.ref mq)) 4 (va_rf lp9)) Z B1147 J K1146.1 (fun q99 x99 => x99 = rep G a K1146 q99) w := hO.to rfl
      obtain ⟨_, qr1209, hqr1210⟩ := hO.2.1 13 _ (sg_13 G h0 a _ _ _ _ _)
      refine pc_V0 (G := G) (As := [.int 13, .int 0, .int 0]) (rest := []) hx hb hml hown hq hE hX pX0_al hP hD hS hA hl.1 (Y_emit l G h0 a (upd (upd (upd (upd (upd (upd (upd (upd (upd (upd F 2 (nI sz)) 5 (nI cs1148)) 6 (nI rg)) 7 (nI hd)) 8 (nI dp)) 12 (nI vr)) 13 as1149) 14 wt1150) 15 wf1151) 16 ls9) (updR (updR (updR R 2 (.ref pq)) 3 (.ref mq)) 4 (va_rf lp9)) Z B1147 J K1146.1 (fun q99 x99 => x99 = rep G a K1146 q99) w 13 0 0 cs1148 hd (by omega) hO) (gV pw_129 pw_130 pw_131 pw_70 pw_115) hV_X1_emit qr1209 1 hqr1210 rfl rfl rfl (Nat.le_of_ble_eq_true rfl) dX0_statement_209 ⟨(by show 0 + 0 ≤ ((rE (g 2 q) - rS (g 2 q)) + 1); omega), (by show 0 + 0 ≤ (6 * (rE (g 2 q) - rS (g 2 q)) + 6); omega)⟩ ⟨(by show 2 + 1 ≤ (5 * n + 50); omega), (by show 8 + (4 + 11) + 60 ≤ (200 * n + 1200); omega)⟩ (fun v1208 u1206 H locs hw1207 hP hD hS => ?_)
      obtain ⟨w, _⟩ := u1206
      obtain ⟨hw1207, hO⟩ := hw1207
      obtain rfl : v1208 = none := hw1207
      have hO : OKP G h0 a (upd (upd (upd (upd (upd (upd (upd (upd (upd (upd F 2 (nI sz)) 5 (nI (cs1148 + 1))) 6 (nI rg)) 7 (nI hd)) 8 (nI dp)) 12 (nI vr)) 13 as1149) 14 wt1150) 15 wf1151) 16 ls9) (updR (updR (updR R 2 (.ref pq)) 3 (.ref mq)) 4 (va_rf lp9)) Z (updA (updA (updA (updA B1147 16 (upd ((B1147 16)) cs1148 13)) 17 (upd ((B1147 17)) cs1148 0)) 18 (upd ((B1147 18)) cs1148 0)) 19 (upd ((B1147 19)) cs1148 (nI hd))) J K1146 w := hO.to rfl
      refine W.widen (k := 0) (n := 0) (Nat.le_of_ble_eq_true rfl) (Nat.le_of_ble_eq_true rfl) ?_
      refine W.eq (g2 := F0 m 212 ls []) rfl ?_
      have hsw1211 : ∀ x9 : Nat, x9 < cs → (upd ((B1147 16)) cs1148 13) x9 = B 16 x9 := fun x9 hx9 => (if_neg (by omega)).trans (hsw1183 x9 hx9)
      have hsw1212 : ∀ x9 : Nat, x9 < cs → (upd ((B1147 17)) cs1148 0) x9 = B 17 x9 := fun x9 hx9 => (if_neg (by omega)).trans (hsw1184 x9 hx9)
      have hsw1213 : ∀ x9 : Nat, x9 < cs → (upd ((B1147 18)) cs1148 0) x9 = B 18 x9 := fun x9 hx9 => (if_neg (by omega)).trans (hsw1185 x9 hx9)
      have hsw1214 : ∀ x9 : Nat, x9 < cs → (upd ((B1147 19)) cs1148 (nI hd)) x9 = B 19 x9 := fun x9 hx9 => (if_neg (by omega)).trans (hsw1186 x9 hx9)
      obtain ⟨Ag1215, hst1216, hag1217⟩ : ∃ A5 : Nat → AS, StW pb.1 pb.2.1 pb.2.2.1 pb.2.2.2 Ag A5 Q9 Q9 pd pd m9 dp lw cs (cs1148 + 1) as9 as1149 hd hd sl sl gr gr (upd ((B1147 16)) cs1148 13) (upd ((B1147 17)) cs1148 0) (upd ((B1147 18)) cs1148 0) (upd ((B1147 19)) cs1148 (nI hd)) ([] : List Nat) ∧ ∀ x9 : Nat, x9 ≤ cs1148 → A5 x9 = Ag1153 x9 := ⟨(upS Ag1153 (cs1148 + 1) (rcA as1149, hd, sl, ([] : List Nat))), StW.print hst1200, fun x9 hx9 => upS_ne (by omega)⟩
      have hlp1218 : LpS K1146 (upd ((B1147 16)) cs1148 13) (upd ((B1147 17)) cs1148 0) Ag1215 pd lp9 lw (cs1148 + 1) hd sl hdL slL xb xc := LpS.same hlp1203 (fun _ _ _ _ _ => rfl) (fun z9 hz9 => ⟨if_neg (by omega), if_neg (by omega), hag1217 z9 (by omega)⟩) (fun _ h9 => h9) (fun z9 h9 => Nat.lt_succ_of_lt (hlp1203.1 z9 h9)) (by omega) ⟨Nat.le_refl _, fun _ _ => rfl⟩
      have hng1219 : Nng (upd ((B1147 18)) cs1148 0) := Nng.set hng1182 (k := 0) (by omega)
      have hpd1220 : PdS pd pd xb xb xc xc ([] : List Nat) cs (cs1148 + 1) := PdS.wk hpd1204 (by omega)
      refine lv_goto (tgt := 241) hx hb dX0_statement_212 (by decide) ?_
      refine W_size (fun hz1 hz2 => ?_)
      refine vx_ret ?_
      have hz1221 : SmW B (updA (updA (updA (updA B1147 16 (upd ((B1147 16)) cs1148 13)) 17 (upd ((B1147 17)) cs1148 0)) 18 (upd ((B1147 18)) cs1148 0)) 19 (upd ((B1147 19)) cs1148 (nI hd))) cs := (fun x9 hx9 => ⟨hsw1211 x9 hx9, hsw1212 x9 hx9, hsw1213 x9 hx9, hsw1214 x9 hx9⟩)
      have hz1222 : BdE K K1146 := hbe1180
      have hz1223 : BeF K K1146 := hbf1187
      have hz1224 : BeL K K1146 lp9 := hbl1189
      have hz1225 : Bth B (updA (updA (updA (updA B1147 16 (upd ((B1147 16)) cs1148 13)) 17 (upd ((B1147 17)) cs1148 0)) 18 (upd ((B1147 18)) cs1148 0)) 19 (upd ((B1147 19)) cs1148 (nI hd))) := (show Thx (upd (upd (upd (upd (upd (upd (upd (upd F 2 (nI sz)) 5 (nI cs)) 6 (nI rg)) 7 (nI hd)) 8 (nI dp)) 12 (nI vr)) 13 as9) 16 ls9) (upd (upd (upd (upd (upd (upd (upd (upd (upd (upd (upd (upd F 2 (nI sz)) 5 (nI cs)) 6 (nI rg)) 7 (nI hd)) 8 (nI dp)) 12 (nI vr)) 13 as9) 16 ls9) 5 (nI (cs1148 + 1))) 13 as1149) 14 wt1150) 15 wf1151) B (updA (updA (updA (updA B1147 16 (upd ((B1147 16)) cs1148 13)) 17 (upd ((B1147 17)) cs1148 0)) 18 (upd ((B1147 18)) cs1148 0)) 19 (upd ((B1147 19)) cs1148 (nI hd))) from (Thx.b (Thx.b8 (Thx.b (Thx.b (Thx.f (Thx.f (Thx.f (Thx.f (Bth.thx hbb1181) (by omega)) (by omega)) (by omega)) (by omega)) (by omega) (by decide)) (by omega) (by decide)) hng1219) (by omega) (by decide))).2
      have hz1226 : BtR B (updA (updA (updA (updA B1147 16 (upd ((B1147 16)) cs1148 13)) 17 (upd ((B1147 17)) cs1148 0)) 18 (upd ((B1147 18)) cs1148 0)) 19 (upd ((B1147 19)) cs1148 (nI hd))) := (BtR.up (BtR.up (BtR.up (BtR.up hbr1188 (by omega)) (by omega)) (by omega)) (by omega))
      have hz1227 : cs ≤ (cs1148 + 1) ∧ (cs1148 + 1) + 0 ≤ cs + 2 * tlE g q := (by omega)
      have hz1228 : dp ≤ dp ∧ dp ≤ 71 := (by omega)
      have hz1229 : vr ≤ vr ∧ vr ≤ 30 ∧ hd + vr = hd + vr := (by omega)
      have hz1230 : AsO as1149 := hao1192.1
      have hz1231 : VrS B (updA (updA (updA (updA B1147 16 (upd ((B1147 16)) cs1148 13)) 17 (upd ((B1147 17)) cs1148 0)) 18 (upd ((B1147 18)) cs1148 0)) 19 (upd ((B1147 19)) cs1148 (nI hd))) vr := hvs1191
      have hz1232 : cs < (cs1148 + 1) ∨ (hd = hd ∧ sl = sl) := (Or.inr ⟨rfl, rfl⟩)
      have hz1233 : ¬ K.2.1 0 q = 22 → hd = hd := (fun _ => rfl)
      have hz1234 : gr ≤ gr ∧ rg ≤ 625 ∧ rg ≤ gr ∧ (rg = 625 ∨ rg = gr) := (by omega)
      have hz1235 : EnV ((updA (updA (updA (updA B1147 16 (upd ((B1147 16)) cs1148 13)) 17 (upd ((B1147 17)) cs1148 0)) 18 (upd ((B1147 18)) cs1148 0)) 19 (upd ((B1147 19)) cs1148 (nI hd))) 26) ((updA (updA (updA (updA B1147 16 (upd ((B1147 16)) cs1148 13)) 17 (upd ((B1147 17)) cs1148 0)) 18 (upd ((B1147 18)) cs1148 0)) 19 (upd ((B1147 19)) cs1148 (nI hd))) 27) nd vr hd c0 sl := hen1190
      have hz1236 : StW pb.1 pb.2.1 pb.2.2.1 pb.2.2.2 Ag Ag1215 Q9 Q9 pd pd m9 dp lw cs (cs1148 + 1) as9 as1149 hd hd sl sl gr gr ((updA (updA (updA (updA B1147 16 (upd ((B1147 16)) cs1148 13)) 17 (upd ((B1147 17)) cs1148 0)) 18 (upd ((B1147 18)) cs1148 0)) 19 (upd ((B1147 19)) cs1148 (nI hd))) 16) ((updA (updA (updA (updA B1147 16 (upd ((B1147 16)) cs1148 13)) 17 (upd ((B1147 17)) cs1148 0)) 18 (upd ((B1147 18)) cs1148 0)) 19 (upd ((B1147 19)) cs1148 (nI hd))) 17) ((updA (updA (updA (updA B1147 16 (upd ((B1147 16)) cs1148 13)) 17 (upd ((B1147 17)) cs1148 0)) 18 (upd ((B1147 18)) cs1148 0)) 19 (upd ((B1147 19)) cs1148 (nI hd))) 18) ((updA (updA (updA (updA B1147 16 (upd ((B1147 16)) cs1148 13)) 17 (upd ((B1147 17)) cs1148 0)) 18 (upd ((B1147 18)) cs1148 0)) 19 (upd ((B1147 19)) cs1148 (nI hd))) 19) [] := hst1216
      have hz1237 : LpS K1146 ((updA (updA (updA (updA B1147 16 (upd ((B1147 16)) cs1148 13)) 17 (upd ((B1147 17)) cs1148 0)) 18 (upd ((B1147 18)) cs1148 0)) 19 (upd ((B1147 19)) cs1148 (nI hd))) 16) ((updA (updA (updA (updA B1147 16 (upd ((B1147 16)) cs1148 13)) 17 (upd ((B1147 17)) cs1148 0)) 18 (upd ((B1147 18)) cs1148 0)) 19 (upd ((B1147 19)) cs1148 (nI hd))) 17) Ag1215 pd lp9 lw (cs1148 + 1) hd sl hdL slL xb xc := hlp1218
      have hz1238 : PdS pd pd xb xb xc xc [] cs (cs1148 + 1) := hpd1220
      have hz1239 : RgQx (updA (updA (updA (updA B1147 16 (upd ((B1147 16)) cs1148 13)) 17 (upd ((B1147 17)) cs1148 0)) 18 (upd ((B1147 18)) cs1148 0)) 19 (upd ((B1147 19)) cs1148 (nI hd))) Q9 gr nd := hrq1193
      have hz1240 : LpR K1146 lp9 rL := hlr1205
      have hO : OKP G h0 a (upd (upd (upd (upd (upd (upd (upd (upd (upd (upd F 2 (nI sz)) 5 (nI (cs1148 + 1))) 6 (nI rg)) 7 (nI hd)) 8 (nI dp)) 12 (nI vr)) 13 as1149) 14 wt1150) 15 wf1151) 16 ls9) (updR (updR (updR R 2 (.ref pq)) 3 (.ref mq)) 4 (va_rf lp9)) Z (updA (updA (updA (updA B1147 16 (upd ((B1147 16)) cs1148 13)) 17 (upd ((B1147 17)) cs1148 0)) 18 (upd ((B1147 18)) cs1148 0)) 19 (upd ((B1147 19)) cs1148 (nI hd))) J K1146 w := hO.to rfl
      refine W.widen (k := ((rE (g 2 q) - rS (g 2 q)) + 1)) (n := (6 * (rE (g 2 q) - rS (g 2 q)) + 6)) (by omega) (by omega) ?_
      have hzz1 : H.size ≤ s.heap.size + ((rE (g 2 q) - rS (g 2 q))) := (by have z : 0 ≤ (rE (g 2 q) - rS (g 2 q)) := (by omega); omega)
      have hzz2 : hSl H ≤ hSl s.heap + ((6 * (rE (g 2 q) - rS (g 2 q)))) := (by have z : 0 ≤ (6 * (rE (g 2 q) - rS (g 2 q))) := (by omega); omega)
      exact W.vret hx hb hr (fun t99 ht99 hW99 => ⟨⟨_, (w, (K1146, (updA (updA (updA (updA B1147 16 (upd ((B1147 16)) cs1148 13)) 17 (upd ((B1147 17)) cs1148 0)) 18 (upd ((B1147 18)) cs1148 0)) 19 (upd ((B1147 19)) cs1148 (nI hd))), (cs1148 + 1), as1149, wt1150, wf1151, vr, hd, dp, Ag1215, sl, rg, gr, ls9, Q9, pd, xb, xc)), rfl, ⟨rfl, hz1221, hz1222, hz1223, hz1224, hz1225, hz1226, hz1227, hz1228, hz1229, hz1230, hz1231, hz1232, hz1233, hz1234, hz1235, hz1236, hz1237, hz1238, hz1239, hz1240, hO⟩, by rw [ht99]; exact hP, hD, by rw [ht99]; exact hzz1, by rw [ht99]; exact hzz2⟩, hS.F ht99⟩) hS.2.2 dX0_statement_241
    refine lv_tableOut (tgt := 241) hx hb dX0_statement_36 (sw_out33 h1 h85 h165 h250 h374 h462 h548 h634 h715 h799 h883 h966 h1140) (by decide) ?_
    refine W_size (fun hz1 hz2 => ?_)
    refine vx_ret ?_
    have hz1241 : SmW B B2 cs := (fun x9 hx9 => ⟨(fun x9 hx9 => (hsw2 x9 hx9).1) x9 hx9, (fun x9 hx9 => (hsw2 x9 hx9).2.1) x9 hx9, (fun x9 hx9 => (hsw2 x9 hx9).2.2.1) x9 hx9, (fun x9 hx9 => (hsw2 x9 hx9).2.2.2) x9 hx9⟩)
    have hz1242 : BdE K K := BdE.rfl
    have hz1243 : BeF K K := BeF.rfl
    have hz1244 : BeL K K lp9 := BeL.rfl
    have hz1245 : Bth B B2 := (show Thx (upd (upd (upd (upd (upd (upd (upd (upd F 2 (nI sz)) 5 (nI cs)) 6 (nI rg)) 7 (nI hd)) 8 (nI dp)) 12 (nI vr)) 13 as9) 16 ls9) (upd (upd (upd (upd (upd (upd (upd (upd (upd F 2 (nI sz)) 5 (nI cs)) 6 (nI rg)) 7 (nI hd)) 8 (nI dp)) 12 (nI vr)) 13 as9) 16 ls9) 5 (nI cs2)) B B2 from (Thx.f (Bth.thx hbb2) (by omega))).2
    have hz1246 : BtR B B2 := hbr2
    have hz1247 : cs ≤ cs2 ∧ cs2 + 0 ≤ cs + 2 * tlE g q := (by omega)
    have hz1248 : dp ≤ dp ∧ dp ≤ 71 := (by omega)
    have hz1249 : vr ≤ vr ∧ vr ≤ 30 ∧ hd + vr = hd + vr := (by omega)
    have hz1250 : AsO as9 := hao
    have hz1251 : VrS B B2 vr := hvs2
    have hz1252 : cs < cs2 ∨ (hd = hd ∧ sl = sl) := (Or.inr ⟨rfl, rfl⟩)
    have hz1253 : ¬ K.2.1 0 q = 22 → hd = hd := (fun _ => rfl)
    have hz1254 : gr ≤ gr ∧ rg ≤ 625 ∧ rg ≤ gr ∧ (rg = 625 ∨ rg = gr) := (by omega)
    have hz1255 : EnV (B2 26) (B2 27) nd vr hd c0 sl := hen2
    have hz1256 : StW pb.1 pb.2.1 pb.2.2.1 pb.2.2.2 Ag A2 Q9 Q9 pd pd m9 dp lw cs cs2 as9 as9 hd hd sl sl gr gr (B2 16) (B2 17) (B2 18) (B2 19) [] := hst2
    have hz1257 : LpS K (B2 16) (B2 17) A2 pd lp9 lw cs2 hd sl hdL slL xb xc := hlp2
    have hz1258 : PdS pd pd xb xb xc xc [] cs cs2 := (PdS.rfl (cs1 := cs2))
    have hz1259 : RgQx B2 Q9 gr nd := hrq2
    have hz1260 : LpR K lp9 rL := hlr
    have hO : OKP G h0 a (upd (upd (upd (upd (upd (upd (upd (upd (upd (upd F 2 (nI sz)) 5 (nI cs2)) 6 (nI rg)) 7 (nI hd)) 8 (nI dp)) 12 (nI vr)) 13 as9) 14 (F 14)) 15 (F 15)) 16 ls9) (updR (updR (updR R 2 (.ref pq)) 3 (.ref mq)) 4 (va_rf lp9)) Z B2 J K w := hO.to rfl
    refine W.widen (k := ((rE (g 2 q) - rS (g 2 q)) + 1)) (n := (6 * (rE (g 2 q) - rS (g 2 q)) + 6)) (by omega) (by omega) ?_
    have hzz1 : H.size ≤ s.heap.size + ((rE (g 2 q) - rS (g 2 q))) := (by have z : 0 ≤ (rE (g 2 q) - rS (g 2 q)) := (by omega); omega)
    have hzz2 : hSl H ≤ hSl s.heap + ((6 * (rE (g 2 q) - rS (g 2 q)))) := (by have z : 0 ≤ (6 * (rE (g 2 q) - rS (g 2 q))) := (by omega); omega)
    exact W.vret hx hb hr (fun t99 ht99 hW99 => ⟨⟨_, (w, (K, B2, cs2, as9, (F 14), (F 15), vr, hd, dp, A2, sl, rg, gr, ls9, Q9, pd, xb, xc)), rfl, ⟨rfl, hz1241, hz1242, hz1243, hz1244, hz1245, hz1246, hz1247, hz1248, hz1249, hz1250, hz1251, hz1252, hz1253, hz1254, hz1255, hz1256, hz1257, hz1258, hz1259, hz1260, hO⟩, by rw [ht99]; exact hP, hD, by rw [ht99]; exact hzz1, by rw [ht99]; exact hzz2⟩, hS.F ht99⟩) hS.2.2 dX0_statement_241
  refine lv_iload_n hx hb dX0_statement_0 rfl (lv_at hl 2 rfl) ?_
  refine lv_if_eq (tgt := 32) hx hb dX0_statement_1 (by decide) (fun c1261 => ?_) (fun c1261 => ?_)
  · have n1262 : tf = 0 := (nI_eq (a := tf) (b := 0) (by omega) (by omega)).mp c1261
    refine W.widen (k := 0) (n := 0) (by show 0 ≤ _; omega) (by show 0 ≤ _; omega) ?_
    have hO : OKP G h0 a (upd (upd (upd (upd (upd (upd (upd (upd F 2 (nI sz)) 5 (nI cs)) 6 (nI rg)) 7 (nI hd)) 8 (nI dp)) 12 (nI vr)) 13 as9) 16 ls9) (updR (updR (updR R 2 (.ref pq)) 3 (.ref mq)) 4 (va_rf lp9)) Z B J K w := hO.to rfl
    exact cut_d B cs Ag _ _ _ _ ((show Thx (upd (upd (upd (upd (upd (upd (upd (upd F 2 (nI sz)) 5 (nI cs)) 6 (nI rg)) 7 (nI hd)) 8 (nI dp)) 12 (nI vr)) 13 as9) 16 ls9) (upd (upd (upd (upd (upd (upd (upd (upd F 2 (nI sz)) 5 (nI cs)) 6 (nI rg)) 7 (nI hd)) 8 (nI dp)) 12 (nI vr)) 13 as9) 16 ls9) B B from Thx.rfl).2) hng (fun x9 hx9 => ⟨(fun _ _ => rfl) x9 hx9, (fun _ _ => rfl) x9 hx9, (fun _ _ => rfl) x9 hx9, (fun _ _ => rfl) x9 hx9⟩) BtR.rfl VrS.rfl (by omega) hst0 hlp hen hrq hP hD hS hO (lv_sub hl [2, 1, 0] rfl)
  · have n1263 : ¬ (tf = 0) := fun h9 => c1261 ((nI_eq (a := tf) (b := 0) (by omega) (by omega)).mpr h9)
    refine lv_aload_n hx hb dX0_statement_4 rfl (lv_at hl 1 rfl) ?_
    refine p_get (v := .int kd) (C := RX7) (Tc := TX7) (N := 11) (ci := 13) hx hb hq pin_wsX70 hown hE hP hO (by rw [hqT]; decide) (rep_1 hqT) rfl 0 (by decide) (hq _ pw_166) (fun _ h9 => h9) (congrArg (fun z => some (Value.int z)) hkd) dX0_statement_5 ?_
    refine lv_bipush (v := 21) hx hb dX0_statement_8 (by decide) ?_
    refine lv_icmp_eq (tgt := 32) hx hb dX0_statement_10 (by decide) (fun c1264 => ?_) (fun c1264 => ?_)
    · refine W.widen (k := 0) (n := 0) (by show 0 ≤ _; omega) (by show 0 ≤ _; omega) ?_
      have hO : OKP G h0 a (upd (upd (upd (upd (upd (upd (upd (upd F 2 (nI sz)) 5 (nI cs)) 6 (nI rg)) 7 (nI hd)) 8 (nI dp)) 12 (nI vr)) 13 as9) 16 ls9) (updR (updR (updR R 2 (.ref pq)) 3 (.ref mq)) 4 (va_rf lp9)) Z B J K w := hO.to rfl
      exact cut_d B cs Ag _ _ _ _ ((show Thx (upd (upd (upd (upd (upd (upd (upd (upd F 2 (nI sz)) 5 (nI cs)) 6 (nI rg)) 7 (nI hd)) 8 (nI dp)) 12 (nI vr)) 13 as9) 16 ls9) (upd (upd (upd (upd (upd (upd (upd (upd F 2 (nI sz)) 5 (nI cs)) 6 (nI rg)) 7 (nI hd)) 8 (nI dp)) 12 (nI vr)) 13 as9) 16 ls9) B B from Thx.rfl).2) hng (fun x9 hx9 => ⟨(fun _ _ => rfl) x9 hx9, (fun _ _ => rfl) x9 hx9, (fun _ _ => rfl) x9 hx9, (fun _ _ => rfl) x9 hx9⟩) BtR.rfl VrS.rfl (by omega) hst0 hlp hen hrq hP hD hS hO (lv_sub hl [2, 1, 0] rfl)
    · refine lv_aload_n hx hb dX0_statement_13 rfl (lv_at hl 1 rfl) ?_
      refine p_get (v := .int kd) (C := RX7) (Tc := TX7) (N := 11) (ci := 13) hx hb hq pin_wsX70 hown hE hP hO (by rw [hqT]; decide) (rep_1 hqT) rfl 0 (by decide) (hq _ pw_166) (fun _ h9 => h9) (congrArg (fun z => some (Value.int z)) hkd) dX0_statement_14 ?_
      refine lv_bipush (v := 34) hx hb dX0_statement_17 (by decide) ?_
      refine lv_icmp_eq (tgt := 32) hx hb dX0_statement_19 (by decide) (fun c1265 => ?_) (fun c1265 => ?_)
      · refine W.widen (k := 0) (n := 0) (by show 0 ≤ _; omega) (by show 0 ≤ _; omega) ?_
        have hO : OKP G h0 a (upd (upd (upd (upd (upd (upd (upd (upd F 2 (nI sz)) 5 (nI cs)) 6 (nI rg)) 7 (nI hd)) 8 (nI dp)) 12 (nI vr)) 13 as9) 16 ls9) (updR (updR (updR R 2 (.ref pq)) 3 (.ref mq)) 4 (va_rf lp9)) Z B J K w := hO.to rfl
        exact cut_d B cs Ag _ _ _ _ ((show Thx (upd (upd (upd (upd (upd (upd (upd (upd F 2 (nI sz)) 5 (nI cs)) 6 (nI rg)) 7 (nI hd)) 8 (nI dp)) 12 (nI vr)) 13 as9) 16 ls9) (upd (upd (upd (upd (upd (upd (upd (upd F 2 (nI sz)) 5 (nI cs)) 6 (nI rg)) 7 (nI hd)) 8 (nI dp)) 12 (nI vr)) 13 as9) 16 ls9) B B from Thx.rfl).2) hng (fun x9 hx9 => ⟨(fun _ _ => rfl) x9 hx9, (fun _ _ => rfl) x9 hx9, (fun _ _ => rfl) x9 hx9, (fun _ _ => rfl) x9 hx9⟩) BtR.rfl VrS.rfl (by omega) hst0 hlp hen hrq hP hD hS hO (lv_sub hl [2, 1, 0] rfl)
      · refine lv_aload_n hx hb dX0_statement_22 rfl (lv_at hl 0 rfl) ?_
        refine c_get (v := .ref (a 2)) (C := RX0) (Tc := TX0) (N := 13) (ci := 0) hx hb hq pin_wsX00 hown hE hP hO 24 (sg_24 G h0 a _ _ _ _ _) rfl 1 (by decide) (hq _ pw_5) (fun _ h9 => h9) rfl dX0_statement_23 ?_
        refine lv_iconst (v := 0) hx hb dX0_statement_26 (by decide) ?_
        refine lv_iconst (v := 0) hx hb dX0_statement_27 (by decide) ?_
        refine lv_iconst (v := 0) hx hb dX0_statement_28 (by decide) ?_
        have hO : OKW G h0 a (upd (upd (upd (upd (upd (upd (upd (upd (upd (upd F 2 (nI sz)) 5 (nI cs)) 6 (nI rg)) 7 (nI hd)) 8 (nI dp)) 12 (nI vr)) 13 as9) 16 ls9) 5 (nI cs)) 7 (nI hd)) (updR (updR (updR R 2 (.ref pq)) 3 (.ref mq)) 4 (va_rf lp9)) Z B J K.1 (fun q99 x99 => x99 = rep G a K q99) w := hO.to rfl
        obtain ⟨_, qr1269, hqr1270⟩ := hO.2.1 13 _ (sg_13 G h0 a _ _ _ _ _)
        refine pc_V0 (G := G) (As := [.int 0, .int 0, .int 0]) (rest := []) hx hb hml hown hq hE hX pX0_al hP hD hS hA hl.1 (Y_emit l G h0 a (upd (upd (upd (upd (upd (upd (upd (upd F 2 (nI sz)) 5 (nI cs)) 6 (nI rg)) 7 (nI hd)) 8 (nI dp)) 12 (nI vr)) 13 as9) 16 ls9) (updR (updR (updR R 2 (.ref pq)) 3 (.ref mq)) 4 (va_rf lp9)) Z B J K.1 (fun q99 x99 => x99 = rep G a K q99) w 0 0 0 cs hd (by omega) hO) (gV pw_129 pw_130 pw_131 pw_70 pw_115) hV_X1_emit qr1269 1 hqr1270 rfl rfl rfl (Nat.le_of_ble_eq_true rfl) dX0_statement_29 ⟨(by show 0 + 0 ≤ ((rE (g 2 q) - rS (g 2 q)) + 1); omega), (by show 0 + 0 ≤ (6 * (rE (g 2 q) - rS (g 2 q)) + 6); omega)⟩ ⟨(by show 2 + 1 ≤ (5 * n + 50); omega), (by show 8 + (4 + 11) + 60 ≤ (200 * n + 1200); omega)⟩ (fun v1268 u1266 H locs hw1267 hP hD hS => ?_)
        obtain ⟨w, _⟩ := u1266
        obtain ⟨hw1267, hO⟩ := hw1267
        obtain rfl : v1268 = none := hw1267
        have hO : OKP G h0 a (upd (upd (upd (upd (upd (upd (upd (upd F 2 (nI sz)) 5 (nI (cs + 1))) 6 (nI rg)) 7 (nI hd)) 8 (nI dp)) 12 (nI vr)) 13 as9) 16 ls9) (updR (updR (updR R 2 (.ref pq)) 3 (.ref mq)) 4 (va_rf lp9)) Z (updA (updA (updA (updA B 16 (upd ((B 16)) cs 0)) 17 (upd ((B 17)) cs 0)) 18 (upd ((B 18)) cs 0)) 19 (upd ((B 19)) cs (nI hd))) J K w := hO.to rfl
        refine W.widen (k := 0) (n := 0) (Nat.le_of_ble_eq_true rfl) (Nat.le_of_ble_eq_true rfl) ?_
        refine W.eq (g2 := F0 m 32 ls []) rfl ?_
        have hsw1271 : ∀ x9 : Nat, x9 < cs → (upd ((B 16)) cs 0) x9 = B 16 x9 := fun x9 hx9 => (if_neg (by omega)).trans ((fun _ _ => rfl) x9 hx9)
        have hsw1272 : ∀ x9 : Nat, x9 < cs → (upd ((B 17)) cs 0) x9 = B 17 x9 := fun x9 hx9 => (if_neg (by omega)).trans ((fun _ _ => rfl) x9 hx9)
        have hsw1273 : ∀ x9 : Nat, x9 < cs → (upd ((B 18)) cs 0) x9 = B 18 x9 := fun x9 hx9 => (if_neg (by omega)).trans ((fun _ _ => rfl) x9 hx9)
        have hsw1274 : ∀ x9 : Nat, x9 < cs → (upd ((B 19)) cs (nI hd)) x9 = B 19 x9 := fun x9 hx9 => (if_neg (by omega)).trans ((fun _ _ => rfl) x9 hx9)
        obtain ⟨Ag1275, hst1276, hag1277⟩ : ∃ A5 : Nat → AS, StW pb.1 pb.2.1 pb.2.2.1 pb.2.2.2 Ag A5 Q9 Q9 pd pd m9 dp lw cs (cs + 1) as9 as9 hd hd sl sl gr gr (upd ((B 16)) cs 0) (upd ((B 17)) cs 0) (upd ((B 18)) cs 0) (upd ((B 19)) cs (nI hd)) ([] : List Nat) ∧ ∀ x9 : Nat, x9 ≤ cs → A5 x9 = Ag x9 := ⟨(upS Ag (cs + 1) (rcA as9, hd, sl, ([] : List Nat))), StW.fuel hst0, fun x9 hx9 => upS_ne (by omega)⟩
        have hlp1278 : LpS K (upd ((B 16)) cs 0) (upd ((B 17)) cs 0) Ag1275 pd lp9 lw (cs + 1) hd sl hdL slL xb xc := LpS.same hlp (fun _ _ _ _ _ => rfl) (fun z9 hz9 => ⟨if_neg (by omega), if_neg (by omega), hag1277 z9 (by omega)⟩) (fun _ h9 => h9) (fun z9 h9 => Nat.lt_succ_of_lt (hlp.1 z9 h9)) (by omega) ⟨Nat.le_refl _, fun _ _ => rfl⟩
        have hng1279 : Nng (upd ((B 18)) cs 0) := Nng.set hng (k := 0) (by omega)
        have hpd1280 : PdS pd pd xb xb xc xc ([] : List Nat) cs (cs + 1) := PdS.wk (PdS.rfl (cs1 := cs)) (by omega)
        refine W.widen (k := 0) (n := 0) (by show 0 ≤ _; omega) (by show 0 ≤ _; omega) ?_
        have hO : OKP G h0 a (upd (upd (upd (upd (upd (upd (upd (upd F 2 (nI sz)) 5 (nI (cs + 1))) 6 (nI rg)) 7 (nI hd)) 8 (nI dp)) 12 (nI vr)) 13 as9) 16 ls9) (updR (updR (updR R 2 (.ref pq)) 3 (.ref mq)) 4 (va_rf lp9)) Z (updA (updA (updA (updA B 16 (upd ((B 16)) cs 0)) 17 (upd ((B 17)) cs 0)) 18 (upd ((B 18)) cs 0)) 19 (upd ((B 19)) cs (nI hd))) J K w := hO.to rfl
        exact cut_d (updA (updA (updA (updA B 16 (upd ((B 16)) cs 0)) 17 (upd ((B 17)) cs 0)) 18 (upd ((B 18)) cs 0)) 19 (upd ((B 19)) cs (nI hd))) (cs + 1) Ag1275 _ _ _ _ ((show Thx (upd (upd (upd (upd (upd (upd (upd (upd F 2 (nI sz)) 5 (nI cs)) 6 (nI rg)) 7 (nI hd)) 8 (nI dp)) 12 (nI vr)) 13 as9) 16 ls9) (upd (upd (upd (upd (upd (upd (upd (upd (upd F 2 (nI sz)) 5 (nI cs)) 6 (nI rg)) 7 (nI hd)) 8 (nI dp)) 12 (nI vr)) 13 as9) 16 ls9) 5 (nI (cs + 1))) B (updA (updA (updA (updA B 16 (upd ((B 16)) cs 0)) 17 (upd ((B 17)) cs 0)) 18 (upd ((B 18)) cs 0)) 19 (upd ((B 19)) cs (nI hd))) from (Thx.b (Thx.b8 (Thx.b (Thx.b (Thx.f Thx.rfl (by omega)) (by omega) (by decide)) (by omega) (by decide)) hng1279) (by omega) (by decide))).2) hng1279 (fun x9 hx9 => ⟨hsw1271 x9 hx9, hsw1272 x9 hx9, hsw1273 x9 hx9, hsw1274 x9 hx9⟩) (BtR.up (BtR.up (BtR.up (BtR.up BtR.rfl (by omega)) (by omega)) (by omega)) (by omega)) VrS.rfl (by omega) hst1276 hlp1278 hen hrq hP hD hS hO (lv_sub hl [2, 1, 0] rfl)
theorem PZ_step (l : Launch) (G : pT) (n : Nat) (ih : IhZ l G n) : PZa l G n := fun h0 a F R Z B J K w pq dr ml nd nm cp it s9 q mq cs vr sz tf hd dp rg ls9 lp9 g rk pb Ag Q9 pd sl m9 lw c0 rt gr as9 hdL slL xb xc rL hsz hwp hps hrk hcs hvr hng hmq hqT hqL hrt hrv hdp hrg hhd hlo hek hcO hna hen hao hem hrm hgr hns hsk hlp hrq hrL hlr htf hO hl0 => Y_statement0 l G h0 a F R Z B J K w pq dr ml nd nm cp it s9 q mq cs vr sz n tf hd dp rg ls9 lp9 g rk pb Ag Q9 pd sl m9 lw c0 rt gr as9 hdL slL xb xc rL hsz hwp hps hrk hcs hvr hng hmq hqT hqL hrt hrv hdp hrg hhd hlo hek hcO hna hen hao hem hrm hgr hns hsk hlp hrq hrL hlr htf ih hO hl0
theorem IhZ.all (l : Launch) (G : pT) : ∀ n : Nat, IhZ l G n
  | 0 => fun m hm => absurd hm (by omega)
  | n + 1 => fun m hm => by
    by_cases e : m = n
    · rw [e]; exact PZ_step l G n (IhZ.all l G n)
    · exact IhZ.all l G n m (by omega)

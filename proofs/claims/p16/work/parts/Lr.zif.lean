theorem BsR.bt {B B1 : Nat → Nat → Int32} (h : BsR B B1) : BtR B B1 := fun i hi => h i (fun z => hi (by omega)) (fun z => hi (by omega))
theorem BeR.bt {B B1 : Nat → Nat → Int32} (h : BeR B B1) : BtR B B1 := fun i hi => h i (fun z => hi (by omega))
theorem BsR.rg {B B1 : Nat → Nat → Int32} (h : BsR B B1) : ∀ i : Nat, 20 ≤ i → i ≤ 24 → B1 i = B i := fun i h1 h2 => h i (by omega) (by omega)
def PZa (l : Launch) (G : pT) (n : Nat) : Prop := ∀ (h0 : Nat) (a : Nat → Nat) (F : Nat → Int32) (R : Nat → Value) (Z : Int64) (B : Nat → Nat → Int32) (J : Nat → Nat → Int64) (K : PK) (w : va_W) (pq : Nat) (dr : Nat) (ml : Nat) (nd : Nat) (nm : Nat) (cp : Nat) (it : Nat → Nat) (s9 : Nat) (q : Nat) (mq : Nat) (cs : Nat) (vr : Nat) (sz : Nat) (tf : Nat) (hd : Nat) (dp : Nat) (rg : Nat) (ls9 : Int32) (lp9 : Option Nat) (g : Nat → Nat → Nat) (rk : Nat → Nat) (pb : PNb) (Ag : Nat → AS) (Q9 : RX) (pd : Nat → Prop) (sl : Nat → Nat) (m9 : Nat) (lw : Nat) (c0 : Nat) (rt : Nat) (gr : Nat) (as9 : Int32) (hdL : Nat) (slL : Nat → Nat) (xb : List Nat) (xc : List Nat) (rL : Prop), (sz ≤ 5000) → (WPr G K g) → (PgT G K g (a 1) pq dr ml nd nm cp it s9) → (RkO K rk) → (cs ≤ 10000) → (vr ≤ 30) → (Nng (B 18)) → (K.1 mq = 3) → (K.1 q = 1) → (1 ≤ g 0 q ∧ g 0 q ≤ n) → (K.2.1 10 mq = nI rt) → (TyV nd rt ∧ (bX pb).2.2.2.2.1 m9 = rt) → (dp ≤ 71) → (rg ≤ 625) → (hd ≤ 41 + vr) → (LpO K lp9) → (EkA pb K g (B 7) (B 11) sz) → (OwC K dr mq c0) → (NaB pb G K (B 11) dr nd sz) → (EnV (B 26) (B 27) nd vr hd c0 sl) → (AsO as9) → (EmB pb B Ag pd m9 dp lw cs as9 hd sl []) → (cs + 2 * tlE g q ≤ 9998) → (rg ≤ 625 ∧ rg ≤ gr ∧ (rg = 625 ∨ rg = gr)) → (hd + ndE g q ≤ 41 + vr) → (SkA K g (B 11) sz nd) → (LpS K (B 16) (B 17) Ag pd lp9 lw cs hd sl hdL slL xb xc) → (RgQx B Q9 gr nd) → (¬ as9 = -1 → rL) → (LpR K lp9 rL) → (tf ≤ 1) → (OKP G h0 a (upd (upd (upd (upd (upd (upd (upd (upd F 2 (nI sz)) 5 (nI cs)) 6 (nI rg)) 7 (nI hd)) 8 (nI dp)) 12 (nI vr)) 13 as9) 16 ls9) (updR (updR (updR R 2 (.ref pq)) 3 (.ref mq)) 4 (va_rf lp9)) Z B J K w) → (l.stackTraces = false) → PBn l G pX0 yX0_statement cX0_statement 3 none ({ frames := (5 * n + 50), cells := ((rE (g 2 q) - rS (g 2 q)) + 1), slots := (6 * (rE (g 2 q) - rS (g 2 q)) + 6), locals := (200 * n + 1200) }) [.ref (a 4), .ref q, .int (nI tf)] w (fun (v : Option Value) (u : va_W × (PK × (Nat → Nat → Int32) × Nat × Int32 × Int32 × Int32 × Nat × Nat × Nat × (Nat → AS) × (Nat → Nat) × Nat × Nat × Int32 × RX × (Nat → Prop) × List Nat × List Nat)) => v = none ∧ (SmW B u.2.2.1 cs) ∧ (BdE K u.2.1) ∧ (BeF K u.2.1) ∧ (BeL K u.2.1 lp9) ∧ (Bth B u.2.2.1) ∧ (BtR B u.2.2.1) ∧ (cs ≤ u.2.2.2.1 ∧ u.2.2.2.1 + 0 ≤ cs + 2 * tlE g q) ∧ (dp ≤ u.2.2.2.2.2.2.2.2.2.1 ∧ u.2.2.2.2.2.2.2.2.2.1 ≤ 71) ∧ (vr ≤ u.2.2.2.2.2.2.2.1 ∧ u.2.2.2.2.2.2.2.1 ≤ 30 ∧ u.2.2.2.2.2.2.2.2.1 + vr = hd + u.2.2.2.2.2.2.2.1) ∧ (AsO u.2.2.2.2.1) ∧ (VrS B u.2.2.1 vr) ∧ (cs < u.2.2.2.1 ∨ (u.2.2.2.2.2.2.2.2.1 = hd ∧ u.2.2.2.2.2.2.2.2.2.2.2.1 = sl)) ∧ (¬ K.2.1 0 q = 22 → u.2.2.2.2.2.2.2.2.1 = hd) ∧ (gr ≤ u.2.2.2.2.2.2.2.2.2.2.2.2.2.1 ∧ u.2.2.2.2.2.2.2.2.2.2.2.2.1 ≤ 625 ∧ u.2.2.2.2.2.2.2.2.2.2.2.2.1 ≤ u.2.2.2.2.2.2.2.2.2.2.2.2.2.1 ∧ (u.2.2.2.2.2.2.2.2.2.2.2.2.1 = 625 ∨ u.2.2.2.2.2.2.2.2.2.2.2.2.1 = u.2.2.2.2.2.2.2.2.2.2.2.2.2.1)) ∧ (EnV (u.2.2.1 26) (u.2.2.1 27) nd u.2.2.2.2.2.2.2.1 u.2.2.2.2.2.2.2.2.1 c0 u.2.2.2.2.2.2.2.2.2.2.2.1) ∧ (StW pb.1 pb.2.1 pb.2.2.1 pb.2.2.2 Ag u.2.2.2.2.2.2.2.2.2.2.1 Q9 u.2.2.2.2.2.2.2.2.2.2.2.2.2.2.2.1 pd u.2.2.2.2.2.2.2.2.2.2.2.2.2.2.2.2.1 m9 u.2.2.2.2.2.2.2.2.2.1 lw cs u.2.2.2.1 as9 u.2.2.2.2.1 hd u.2.2.2.2.2.2.2.2.1 sl u.2.2.2.2.2.2.2.2.2.2.2.1 gr u.2.2.2.2.2.2.2.2.2.2.2.2.2.1 (u.2.2.1 16) (u.2.2.1 17) (u.2.2.1 18) (u.2.2.1 19) []) ∧ (LpS u.2.1 (u.2.2.1 16) (u.2.2.1 17) u.2.2.2.2.2.2.2.2.2.2.1 u.2.2.2.2.2.2.2.2.2.2.2.2.2.2.2.2.1 lp9 lw u.2.2.2.1 u.2.2.2.2.2.2.2.2.1 u.2.2.2.2.2.2.2.2.2.2.2.1 hdL slL u.2.2.2.2.2.2.2.2.2.2.2.2.2.2.2.2.2.1 u.2.2.2.2.2.2.2.2.2.2.2.2.2.2.2.2.2.2) ∧ (PdS pd u.2.2.2.2.2.2.2.2.2.2.2.2.2.2.2.2.1 xb u.2.2.2.2.2.2.2.2.2.2.2.2.2.2.2.2.2.1 xc u.2.2.2.2.2.2.2.2.2.2.2.2.2.2.2.2.2.2 [] cs u.2.2.2.1) ∧ (RgQx u.2.2.1 u.2.2.2.2.2.2.2.2.2.2.2.2.2.2.2.1 u.2.2.2.2.2.2.2.2.2.2.2.2.2.1 nd) ∧ (LpR u.2.1 lp9 rL) ∧ (OKP G h0 a (upd (upd (upd (upd (upd (upd (upd (upd (upd (upd F 2 (nI sz)) 5 (nI u.2.2.2.1)) 6 (nI u.2.2.2.2.2.2.2.2.2.2.2.2.1)) 7 (nI u.2.2.2.2.2.2.2.2.1)) 8 (nI u.2.2.2.2.2.2.2.2.2.1)) 12 (nI u.2.2.2.2.2.2.2.1)) 13 u.2.2.2.2.1) 14 u.2.2.2.2.2.1) 15 u.2.2.2.2.2.2.1) 16 u.2.2.2.2.2.2.2.2.2.2.2.2.2.2.1) (updR (updR (updR R 2 (.ref pq)) 3 (.ref mq)) 4 (va_rf lp9)) Z u.2.2.1 J u.2.1 u.1)) (fun u => u.1) (fun (u : va_W × (PK × (Nat → Nat → Int32) × Nat × Int32 × Int32 × Int32 × Nat × Nat × Nat × (Nat → AS) × (Nat → Nat) × Nat × Nat × Int32 × RX × (Nat → Prop) × List Nat × List Nat)) => (rE (g 2 q) - rS (g 2 q))) (fun (u : va_W × (PK × (Nat → Nat → Int32) × Nat × Int32 × Int32 × Int32 × Nat × Nat × Nat × (Nat → AS) × (Nat → Nat) × Nat × Nat × Int32 × RX × (Nat → Prop) × List Nat × List Nat)) => (6 * (rE (g 2 q) - rS (g 2 q)))) (fun (u : va_W × (Nat → Int32) × (Nat → Value) × (Nat → Nat → Int32)) => ThQ G h0 a (upd (upd (upd (upd (upd (upd (upd (upd F 2 (nI sz)) 5 (nI cs)) 6 (nI rg)) 7 (nI hd)) 8 (nI dp)) 12 (nI vr)) 13 as9) 16 ls9) (updR (updR (updR R 2 (.ref pq)) 3 (.ref mq)) 4 (va_rf lp9)) Z B J u) (fun u => u.1)
def IhZ (l : Launch) (G : pT) (n : Nat) : Prop := ∀ m : Nat, m < n → PZa l G m
theorem IhZ.lo {l : Launch} {G : pT} {n : Nat} (h : IhZ l G n) : IhZ l G (n - 1) := fun m hm => h m (by omega)
set_option maxHeartbeats 60000000 in
set_option maxRecDepth 100000 in
theorem Y_if (l : Launch) (G : pT) (h0 : Nat) (a : Nat → Nat) (F : Nat → Int32) (R : Nat → Value) (Z : Int64) (B : Nat → Nat → Int32) (J : Nat → Nat → Int64) (K : PK) (w : va_W) (pq : Nat) (dr : Nat) (ml : Nat) (nd : Nat) (nm : Nat) (cp : Nat) (it : Nat → Nat) (s9 : Nat) (q : Nat) (mq : Nat) (cs : Nat) (vr : Nat) (sz : Nat) (n : Nat) (q1 : Nat) (q2 : Nat) (hd : Nat) (dp : Nat) (rg : Nat) (ls9 : Int32) (lp9 : Option Nat) (g : Nat → Nat → Nat) (rk : Nat → Nat) (pb : PNb) (Ag : Nat → AS) (Q9 : RX) (pd : Nat → Prop) (sl : Nat → Nat) (m9 : Nat) (lw : Nat) (c0 : Nat) (rt : Nat) (gr : Nat) (as9 : Int32) (hdL : Nat) (slL : Nat → Nat) (xb : List Nat) (xc : List Nat) (rL : Prop) (hsz : sz ≤ 5000) (hwp : WPr G K g) (hps : PgT G K g (a 1) pq dr ml nd nm cp it s9) (hrk : RkO K rk) (hcs : cs ≤ 10000) (hvr : vr ≤ 30) (hng : Nng (B 18)) (hmq : K.1 mq = 3) (hqT : K.1 q = 1) (hqL : 1 ≤ g 0 q ∧ g 0 q ≤ n) (hrt : K.2.1 10 mq = nI rt) (hrv : TyV nd rt ∧ (bX pb).2.2.2.2.1 m9 = rt) (hdp : dp ≤ 71) (hrg : rg ≤ 625) (hhd : hd ≤ 41 + vr) (hlo : LpO K lp9) (hek : EkA pb K g (B 7) (B 11) sz) (hcO : OwC K dr mq c0) (hna : NaB pb G K (B 11) dr nd sz) (hen : EnV (B 26) (B 27) nd vr hd c0 sl) (hao : AsO as9) (hem : EmB pb B Ag pd m9 dp lw cs as9 hd sl []) (hrm : cs + 2 * tlE g q ≤ 9999) (hgr : rg ≤ 625 ∧ rg ≤ gr ∧ (rg = 625 ∨ rg = gr)) (hns : hd + ndE g q ≤ 41 + vr) (hsk : SkA K g (B 11) sz nd) (hlp : LpS K (B 16) (B 17) Ag pd lp9 lw cs hd sl hdL slL xb xc) (hrq : RgQx B Q9 gr nd) (hrL : ¬ as9 = -1 → rL) (hlr : LpR K lp9 rL) (hc0 : K.2.2.1 0 q = some q1) (ht0 : K.1 q1 = 1) (hv0 : 1 ≤ g 0 q1 ∧ g 0 q1 + 1 ≤ n) (hc1 : K.2.2.1 1 q = some q2) (ht1 : K.1 q2 = 1) (hv1 : 1 ≤ g 0 q2 ∧ g 0 q2 + 1 ≤ n) (hkd : K.2.1 0 q = 25) (ist : IhZ l G n) (hO : OKP G h0 a (upd (upd (upd (upd (upd (upd (upd (upd F 2 (nI sz)) 5 (nI cs)) 6 (nI rg)) 7 (nI hd)) 8 (nI dp)) 12 (nI vr)) 13 as9) 16 ls9) (updR (updR (updR R 2 (.ref pq)) 3 (.ref mq)) 4 (va_rf lp9)) Z B J K w) (hl0 : l.stackTraces = false) : PBn l G pX0 yX0_ifStatement cX0_ifStatement 6 none ({ frames := (5 * n + 46), cells := ((rE (g 2 q) - rS (g 2 q)) + 1), slots := (6 * (rE (g 2 q) - rS (g 2 q)) + 6), locals := (200 * n + 1120) }) [.ref (a 4), .ref q] w (fun (v : Option Value) (u : va_W × (PK × (Nat → Nat → Int32) × Nat × Int32 × Int32 × Int32 × Nat × (Nat → AS) × Nat × Nat × Int32 × RX × (Nat → Prop) × List Nat × List Nat)) => v = none ∧ (SmW B u.2.2.1 cs) ∧ (BdE K u.2.1) ∧ (BeF K u.2.1) ∧ (BeL K u.2.1 lp9) ∧ (Bth B u.2.2.1) ∧ (BtR B u.2.2.1) ∧ (cs ≤ u.2.2.2.1 ∧ u.2.2.2.1 + 1 ≤ cs + 2 * tlE g q) ∧ (dp ≤ u.2.2.2.2.2.2.2.1 ∧ u.2.2.2.2.2.2.2.1 ≤ 71) ∧ (AsO u.2.2.2.2.1) ∧ (VrS B u.2.2.1 vr) ∧ (gr ≤ u.2.2.2.2.2.2.2.2.2.2.1 ∧ u.2.2.2.2.2.2.2.2.2.1 ≤ 625 ∧ u.2.2.2.2.2.2.2.2.2.1 ≤ u.2.2.2.2.2.2.2.2.2.2.1 ∧ (u.2.2.2.2.2.2.2.2.2.1 = 625 ∨ u.2.2.2.2.2.2.2.2.2.1 = u.2.2.2.2.2.2.2.2.2.2.1)) ∧ (EnV (u.2.2.1 26) (u.2.2.1 27) nd vr hd c0 sl) ∧ (StW pb.1 pb.2.1 pb.2.2.1 pb.2.2.2 Ag u.2.2.2.2.2.2.2.2.1 Q9 u.2.2.2.2.2.2.2.2.2.2.2.2.1 pd u.2.2.2.2.2.2.2.2.2.2.2.2.2.1 m9 u.2.2.2.2.2.2.2.1 lw cs u.2.2.2.1 as9 u.2.2.2.2.1 hd hd sl sl gr u.2.2.2.2.2.2.2.2.2.2.1 (u.2.2.1 16) (u.2.2.1 17) (u.2.2.1 18) (u.2.2.1 19) []) ∧ (LpS u.2.1 (u.2.2.1 16) (u.2.2.1 17) u.2.2.2.2.2.2.2.2.1 u.2.2.2.2.2.2.2.2.2.2.2.2.2.1 lp9 lw u.2.2.2.1 hd sl hdL slL u.2.2.2.2.2.2.2.2.2.2.2.2.2.2.1 u.2.2.2.2.2.2.2.2.2.2.2.2.2.2.2) ∧ (PdS pd u.2.2.2.2.2.2.2.2.2.2.2.2.2.1 xb u.2.2.2.2.2.2.2.2.2.2.2.2.2.2.1 xc u.2.2.2.2.2.2.2.2.2.2.2.2.2.2.2 [] cs u.2.2.2.1) ∧ (RgQx u.2.2.1 u.2.2.2.2.2.2.2.2.2.2.2.2.1 u.2.2.2.2.2.2.2.2.2.2.1 nd) ∧ (LpR u.2.1 lp9 rL) ∧ (OKP G h0 a (upd (upd (upd (upd (upd (upd (upd (upd (upd (upd F 2 (nI sz)) 5 (nI u.2.2.2.1)) 6 (nI u.2.2.2.2.2.2.2.2.2.1)) 7 (nI hd)) 8 (nI u.2.2.2.2.2.2.2.1)) 12 (nI vr)) 13 u.2.2.2.2.1) 14 u.2.2.2.2.2.1) 15 u.2.2.2.2.2.2.1) 16 u.2.2.2.2.2.2.2.2.2.2.2.1) (updR (updR (updR R 2 (.ref pq)) 3 (.ref mq)) 4 (va_rf lp9)) Z u.2.2.1 J u.2.1 u.1)) (fun u => u.1) (fun (u : va_W × (PK × (Nat → Nat → Int32) × Nat × Int32 × Int32 × Int32 × Nat × (Nat → AS) × Nat × Nat × Int32 × RX × (Nat → Prop) × List Nat × List Nat)) => (rE (g 2 q) - rS (g 2 q))) (fun (u : va_W × (PK × (Nat → Nat → Int32) × Nat × Int32 × Int32 × Int32 × Nat × (Nat → AS) × Nat × Nat × Int32 × RX × (Nat → Prop) × List Nat × List Nat)) => (6 * (rE (g 2 q) - rS (g 2 q)))) (fun (u : va_W × (Nat → Int32) × (Nat → Value) × (Nat → Nat → Int32)) => ThQ G h0 a (upd (upd (upd (upd (upd (upd (upd (upd F 2 (nI sz)) 5 (nI cs)) 6 (nI rg)) 7 (nI hd)) 8 (nI dp)) 12 (nI vr)) 13 as9) 16 ls9) (updR (updR (updR R 2 (.ref pq)) 3 (.ref mq)) 4 (va_rf lp9)) Z B J u) (fun u => u.1) := by
  intro sz
  refine vx_ofW (cc := cX0_ifStatement) (maxL := 6) (ret := none) (by decide) rfl ?_
  intro p e s m args below meth c s₁ B9 hml hnt hv
  obtain ⟨rfl, hsz, hP, hD0, hE, hX⟩ := hv
  have hx := B9.exec
  have hb := B9.bytes
  have hr := B9.returns
  have hts := atoms_spec (ws := Cond.code yX0_ifStatement cX0_ifStatement 6 none :: pw) B9.pre
  have hq : ∀ w ∈ pw, w.before _ s = true := fun w h => hts w (List.mem_cons_of_mem _ h)
  have hown : s.vm.findClass RX0 = some m.cls := findClass_of_methodNamed B9.named
  have hlocks := B9.notSynchronized
  subst hsz
  have hD := hD0.self (sz := s.heap.size)
  have hA : ∀ q : Nat, s.heap.size ≤ q → va_A w s.heap.size q := fun q h => Or.inr h
  generalize va_A w s.heap.size = A at hD hE hA ⊢
  have hS : va_S A s.heap s.heap [] := va_S.rf
  have hl := lv_entry ([.ref (a 4), .ref q]) (n := 6) (Nat.le_of_ble_eq_true rfl)
  rw [lg_entry_eq]
  generalize (lg_sl ([.ref (a 4), .ref q]) ++ List.replicate (6 - (lg_sl ([.ref (a 4), .ref q])).length) Slot.unset).toArray = ls at hl ⊢
  have hl : lv_has ls 6 [(0, .ref (a 4)), (1, .ref q)] := hl
  have hpg := hps.1
  have hp1 := hpg.1
  have hp2 := hpg.2.1
  have hp3 := hpg.2.2.1
  have hp4 := hpg.2.2.2.1
  have hp5 := hpg.2.2.2.2.1
  have hp6 := hpg.2.2.2.2.2.1
  have hp8 := hpg.2.2.2.2.2.2.2.1
  have hp9 := hpg.2.2.2.2.2.2.2.2
  have hdr0 : ¬ K.1 dr = 0 := by rw [hp4]; decide
  have hrl := hrv.1.lt hna.1.1
  have hskq := hsk q hqT hqL.1
  have htlq9 : tlE g q = rE (g 2 q) - rS (g 2 q) := rfl
  have hwfa : WfA (1, hd, sl, ([] : List Nat)) := hem.2.2.1
  have hhdp := hem.2.2.2.1
  have hloc := hem.2.1
  have hst0 : StW pb.1 pb.2.1 pb.2.2.1 pb.2.2.2 Ag Ag Q9 Q9 pd pd m9 dp lw cs cs as9 as9 hd hd sl sl gr gr (B 16) (B 17) (B 18) (B 19) ([] : List Nat) := StW.nil hem
  obtain ⟨hsa, hst9, hsnb, hsnl, hsc9⟩ := hskq.2.2.2.1 hkd q1 q2 hc0 hc1
  have hsa1 := hsa.1
  have hsa2 := hsa.2
  have hsa3 := hsa1.1
  have hsa4 := hsa1.2
  rcases hos2 : K.2.2.1 2 q with _ | q3
  · skip
    rw [hos2] at hst9
    have hst8 : tlE g q1 + tlE g q2 + 0 + 3 ≤ tlE g q := hst9
    refine lv_aload_n hx hb dX0_ifStatement_0 rfl (lv_at hl 0 rfl) ?_
    refine lv_aload_n hx hb dX0_ifStatement_1 rfl (lv_at hl 1 rfl) ?_
    refine p_get (v := .ref q1) (C := RX7) (Tc := TX7) (N := 11) (ci := 13) hx hb hq pin_wsX70 hown hE hP hO (by rw [hqT]; decide) (rep_1 hqT) rfl 6 (by decide) (hq _ pw_180) (fun _ h9 => h9) (congrArg (fun z => some (va_rf z)) hc0) dX0_ifStatement_2 ?_
    refine lv_aload_n hx hb dX0_ifStatement_5 rfl (lv_at hl 0 rfl) ?_
    refine lv_aload_n hx hb dX0_ifStatement_6 rfl (lv_at hl 1 rfl) ?_
    refine p_get (v := .ref q1) (C := RX7) (Tc := TX7) (N := 11) (ci := 13) hx hb hq pin_wsX70 hown hE hP hO (by rw [hqT]; decide) (rep_1 hqT) rfl 6 (by decide) (hq _ pw_180) (fun _ h9 => h9) (congrArg (fun z => some (va_rf z)) hc0) dX0_ifStatement_7 ?_
    have hO : OKP G h0 a (upd (upd (upd (upd (upd (upd (upd (upd (upd (upd (upd (upd (upd F 2 (nI sz)) 5 (nI cs)) 6 (nI rg)) 7 (nI hd)) 8 (nI dp)) 12 (nI vr)) 13 as9) 16 ls9) 2 (nI sz)) 5 (nI cs)) 7 (nI hd)) 12 (nI vr)) 13 as9) (updR (updR (updR (updR (updR R 2 (.ref pq)) 3 (.ref mq)) 4 (va_rf lp9)) 2 (.ref pq)) 3 (.ref mq)) Z B J K w := hO.to rfl
    obtain ⟨_, qr4, hqr5⟩ := hO.2.1 24 _ (sg_24 G h0 a _ _ _ _ _)
    refine pn_V0 (G := G) (As := [.ref q1]) (rest := [.ref q1, .ref (a 4)]) hx hb hml hown hq hE hX pX0_al hP hD hS hA hl.1 ((PY_all l G (n - 1)) h0 a (upd (upd (upd (upd (upd (upd (upd (upd F 2 (nI sz)) 5 (nI cs)) 6 (nI rg)) 7 (nI hd)) 8 (nI dp)) 12 (nI vr)) 13 as9) 16 ls9) (updR (updR (updR R 2 (.ref pq)) 3 (.ref mq)) 4 (va_rf lp9)) Z B J K w pq dr ml nd nm cp it s9 q1 mq cs vr sz g rk pb Ag pd sl ([] : List Nat) m9 dp lw hd c0 as9 True (by omega) (BdE.wp BdE.rfl hwp) (BdE.pt BdE.rfl hwp hps) (BdE.rko BdE.rfl hrk) (by omega) (by omega) hng hmq ht0 ⟨hv0.1, (by have z9 := hv0; omega)⟩ (EkA.be BdE.rfl (BtR.rfl 7 (by decide)) (BtR.rfl 11 (by decide)) hek) (OwC.be BdE.rfl hmq hdr0 hcO) (NaB.be BdE.rfl BeF.rfl hwp hps.2.1 hdr0 (BtR.rfl 11 (by decide)) hna) hen (fun _ => hst0.1) (by omega) (by show 0 + ndE g q1 ≤ 248; omega) hsa1 hO hl0) (gV pw_173 pw_174 pw_175 pw_63 pw_224) hV_X0_value qr4 0 hqr5 rfl rfl rfl (Nat.le_of_ble_eq_true rfl) dX0_ifStatement_10 ⟨(by show 0 + 1 ≤ ((rE (g 2 q) - rS (g 2 q)) + 1); omega), (by show 0 + 6 ≤ (6 * (rE (g 2 q) - rS (g 2 q)) + 6); omega)⟩ ⟨(by show (5 * (n - 1) + 34) + 1 ≤ (5 * n + 46); omega), (by show 8 + (3 + 11) + (200 * (n - 1) + 600) ≤ (200 * n + 1120); omega)⟩ (fun v3 u1 H locs hw2 hP hD hS => ?_) (fun ux ce9 q9 H9 locs9 hux hP9 hD9 hS9 hce hcv hcl => pb_out ux (ThQ.up (Thx.same (Thx.same (Thx.same (Thx.same (Thx.same Thx.rfl rfl) rfl) rfl) rfl) rfl) (show RhX (updR (updR (updR R 2 (.ref pq)) 3 (.ref mq)) 4 (va_rf lp9)) (updR (updR (updR (updR (updR R 2 (.ref pq)) 3 (.ref mq)) 4 (va_rf lp9)) 2 (.ref pq)) 3 (.ref mq)) from fun k9 hk9 => by unfold updR; simp only [show ¬ k9 = 1 by omega, show ¬ k9 = 2 by omega, show ¬ k9 = 3 by omega, show ¬ k9 = 4 by omega, if_false]) hux) hnt hlocks hce hcv hcl hP9 hD9 hS9 (by show 0 + 1 ≤ ((rE (g 2 q) - rS (g 2 q)) + 1); omega) (by show 0 + 6 ≤ (6 * (rE (g 2 q) - rS (g 2 q)) + 6); omega))
    obtain ⟨w, K6, B7, cs8, as10, wt11, wf12, t13, Ag14, u15⟩ := u1
    obtain ⟨hw2, h16, h17, h18, h19, h20, h21, h22, h23, h24, h25, h26, h27, hO⟩ := hw2
    have h16 : SmW B B7 cs := h16
    have h17 : BdE K K6 := h17
    have h18 : BeF K K6 := h18
    have h19 : BeL K K6 none := h19
    have h20 : BeI K K6 g q1 := h20
    have h21 : Bth B B7 := h21
    have h22 : BeR B B7 := h22
    have h23 : t13 < 128 := h23
    have h24 : cs ≤ cs8 ∧ cs8 + 0 ≤ cs + 2 * tlE g q1 := h24
    have h25 : AsE as9 as10 ∧ AsE as9 wt11 ∧ AsE as9 wf12 := h25
    have h26 : True → VaQ pb B B7 Ag Ag14 pd m9 dp lw cs cs8 as9 as10 wt11 wf12 hd sl ([] : List Nat) t13 u15 (K.2.1 0 q1) := h26
    have h27 : CaK (K.2.1 0 q1) → cs8 + 2 ≤ cs + 2 * tlE g q1 := h27
    obtain rfl : v3 = some (.int (nI t13)) := hw2
    have hf28 : K6.1 pq = 7 := (BdE.T h17 hp1 (by decide))
    have hf29 : K6.2.2.1 18 pq = some (a 1) := (BdE.C h17 (by rw [hp1]; decide) 18).trans hp2
    have hf30 : K6.2.2.1 14 pq = some dr := (BdE.C h17 (by rw [hp1]; decide) 14).trans hp3
    have hf31 : K6.1 dr = 8 := (BdE.T h17 hp4 (by decide))
    have hf32 : K6.2.2.1 15 pq = some ml := (BdE.C h17 (by rw [hp1]; decide) 15).trans hp5
    have hf33 : K6.1 ml = 5 := (BdE.T h17 hp6 (by decide))
    have hf34 : K6.2.1 24 pq = (nI nd) := (BdE.I h17 (by rw [hp1]; decide) (by decide) (by decide)).trans hp8
    have hf35 : K6.1 q = 1 := (BdE.T h17 hqT (by decide))
    have hf36 : K6.1 mq = 3 := (BdE.T h17 hmq (by decide))
    have hf37 : K6.2.1 10 mq = (nI rt) := (BdE.I h17 (by rw [hmq]; decide) (by decide) (by decide)).trans hrt
    have hf38 : K6.2.2.1 0 q = some q1 := (BdE.C h17 (by rw [hqT]; decide) 0).trans hc0
    have hf39 : K6.1 q1 = 1 := (BdE.T h17 ht0 (by decide))
    have hf40 : K6.2.2.1 1 q = some q2 := (BdE.C h17 (by rw [hqT]; decide) 1).trans hc1
    have hf41 : K6.1 q2 = 1 := (BdE.T h17 ht1 (by decide))
    have hf42 : K6.2.2.1 2 q = none := (BdE.C h17 (by rw [hqT]; decide) 2).trans hos2
    have hO : OKP G h0 a (upd (upd (upd (upd (upd (upd (upd (upd (upd (upd F 2 (nI sz)) 5 (nI cs8)) 6 (nI rg)) 7 (nI hd)) 8 (nI dp)) 12 (nI vr)) 13 as10) 14 wt11) 15 wf12) 16 ls9) (updR (updR (updR R 2 (.ref pq)) 3 (.ref mq)) 4 (va_rf lp9)) Z B7 J K6 w := hO.to rfl
    refine W.widen (k := 0) (n := 0) (by show 0 + 0 ≤ 0; omega) (by show 0 + 0 ≤ 0; omega) ?_
    refine W.eq (g2 := F0 m 13 ls [.int (nI t13), .ref q1, .ref (a 4)]) rfl ?_
    have hbe43 := BdE.trans BdE.rfl h17
    have hbb44 : Bth B B7 := Bth.trans (show Thx (upd (upd (upd (upd (upd (upd (upd (upd F 2 (nI sz)) 5 (nI cs)) 6 (nI rg)) 7 (nI hd)) 8 (nI dp)) 12 (nI vr)) 13 as9) 16 ls9) (upd (upd (upd (upd (upd (upd (upd (upd F 2 (nI sz)) 5 (nI cs)) 6 (nI rg)) 7 (nI hd)) 8 (nI dp)) 12 (nI vr)) 13 as9) 16 ls9) B B from Thx.rfl).2 h21
    have hng45 : Nng (B7 18) := h21.2 hng
    have hsw46 : ∀ x9 : Nat, x9 < cs → (B7 16) x9 = B 16 x9 := fun x9 hx9 => ((h16 x9 (by omega)).1).trans ((fun _ _ => rfl) x9 hx9)
    have hsw47 : ∀ x9 : Nat, x9 < cs → (B7 17) x9 = B 17 x9 := fun x9 hx9 => ((h16 x9 (by omega)).2.1).trans ((fun _ _ => rfl) x9 hx9)
    have hsw48 : ∀ x9 : Nat, x9 < cs → (B7 18) x9 = B 18 x9 := fun x9 hx9 => ((h16 x9 (by omega)).2.2.1).trans ((fun _ _ => rfl) x9 hx9)
    have hsw49 : ∀ x9 : Nat, x9 < cs → (B7 19) x9 = B 19 x9 := fun x9 hx9 => ((h16 x9 (by omega)).2.2.2).trans ((fun _ _ => rfl) x9 hx9)
    have hbf50 := BeF.trans BeF.rfl h18 BdE.rfl
    have hbl52 : BeL K K6 lp9 := BeL.trans BeL.rfl (BeL.any h19) BdE.rfl
    have hbr51 : BtR B B7 := BtR.trans BtR.rfl (BeR.bt h22)
    have hen53 : EnV (B7 26) (B7 27) nd vr hd c0 sl := EnV.of (h22 26 (by decide)) (h22 27 (by decide)) hen
    have hvs54 : VrS B B7 vr := fun i9 hi9 => ⟨(congrFun (h22 26 (by decide)) i9).trans (VrS.rfl i9 hi9).1, (congrFun (h22 27 (by decide)) i9).trans (VrS.rfl i9 hi9).2⟩
    have hao55 : AsO as10 ∧ AsO wt11 ∧ AsO wf12 := ⟨AsE.aso h25.1 hao, AsE.aso h25.2.1 hao, AsE.aso h25.2.2 hao⟩
    have hrq56 : RgQx B7 Q9 gr nd := RgQx.ber hrq (h22 20 (by decide)) (h22 21 (by decide)) (h22 22 (by decide)) (h22 23 (by decide)) (h22 24 (by decide))
    refine lv_bipush (v := 61) hx hb dX0_ifStatement_13 (by decide) ?_
    have hO : OKP G h0 a (upd (upd (upd (upd (upd (upd (upd (upd (upd (upd (upd (upd (upd F 2 (nI sz)) 5 (nI cs)) 6 (nI rg)) 7 (nI hd)) 8 (nI dp)) 12 (nI vr)) 13 as9) 16 ls9) 5 (nI cs8)) 13 as10) 14 wt11) 15 wf12) 2 (nI sz)) (updR (updR (updR (updR R 2 (.ref pq)) 3 (.ref mq)) 4 (va_rf lp9)) 2 (.ref pq)) Z B7 J K6 w := hO.to rfl
    obtain ⟨_, qr60, hqr61⟩ := hO.2.1 24 _ (sg_24 G h0 a _ _ _ _ _)
    refine pn_V0 (G := G) (As := [.ref q1, .int (nI t13), .int (nI 61)]) (rest := []) hx hb hml hown hq hE hX pX0_al hP hD hS hA hl.1 (Y_fit l G h0 a (upd (upd (upd (upd (upd (upd (upd (upd (upd (upd (upd (upd F 2 (nI sz)) 5 (nI cs)) 6 (nI rg)) 7 (nI hd)) 8 (nI dp)) 12 (nI vr)) 13 as9) 16 ls9) 5 (nI cs8)) 13 as10) 14 wt11) 15 wf12) (updR (updR (updR R 2 (.ref pq)) 3 (.ref mq)) 4 (va_rf lp9)) Z B7 J K6 w pq dr ml nd q1 sz t13 61 g pb (by omega) (BdE.pt hbe43 hwp hps).1 (BdE.pt hbe43 hwp hps).2.1 hf39 (by omega) hna.1.1 (NaB.be hbe43 hbf50 hwp hps.2.1 hdr0 (hbr51 11 (by decide)) hna).1.2.2 hO hl0) (gV pw_176 pw_177 pw_178 pw_63 pw_114) hV_X0_fit qr60 0 hqr61 rfl rfl rfl (Nat.le_of_ble_eq_true rfl) dX0_ifStatement_15 ⟨(by show 0 + 1 ≤ ((rE (g 2 q) - rS (g 2 q)) + 1); omega), (by show 0 + 6 ≤ (6 * (rE (g 2 q) - rS (g 2 q)) + 6); omega)⟩ ⟨(by show 7 + 1 ≤ (5 * n + 46); omega), (by show 8 + (4 + 11) + 122 ≤ (200 * n + 1120); omega)⟩ (fun v59 u57 H locs hw58 hP hD hS => ?_) (fun ux ce9 q9 H9 locs9 hux hP9 hD9 hS9 hce hcv hcl => pb_out ux (ThQ.up (Thx.same (Thx.f (Thx.f (Thx.f (Thx.f (Bth.thx hbb44) (by omega)) (by omega)) (by omega)) (by omega)) rfl) (show RhX (updR (updR (updR R 2 (.ref pq)) 3 (.ref mq)) 4 (va_rf lp9)) (updR (updR (updR (updR R 2 (.ref pq)) 3 (.ref mq)) 4 (va_rf lp9)) 2 (.ref pq)) from fun k9 hk9 => by unfold updR; simp only [show ¬ k9 = 1 by omega, show ¬ k9 = 2 by omega, show ¬ k9 = 3 by omega, show ¬ k9 = 4 by omega, if_false]) hux) hnt hlocks hce hcv hcl hP9 hD9 hS9 (by show 0 + 1 ≤ ((rE (g 2 q) - rS (g 2 q)) + 1); omega) (by show 0 + 6 ≤ (6 * (rE (g 2 q) - rS (g 2 q)) + 6); omega))
    obtain ⟨w, _⟩ := u57
    obtain ⟨hw58, h62, hO⟩ := hw58
    have h62 : FtQ pb t13 61 := h62
    obtain rfl : v59 = none := hw58
    have hO : OKP G h0 a (upd (upd (upd (upd (upd (upd (upd (upd (upd (upd F 2 (nI sz)) 5 (nI cs8)) 6 (nI rg)) 7 (nI hd)) 8 (nI dp)) 12 (nI vr)) 13 as10) 14 wt11) 15 wf12) 16 ls9) (updR (updR (updR R 2 (.ref pq)) 3 (.ref mq)) 4 (va_rf lp9)) Z B7 J K6 w := hO.to rfl
    refine W.widen (k := 0) (n := 0) (by show 0 + 0 ≤ 0; omega) (by show 0 + 0 ≤ 0; omega) ?_
    refine W.eq (g2 := F0 m 18 ls []) rfl ?_
    have hst63 : StW pb.1 pb.2.1 pb.2.2.1 pb.2.2.2 Ag Ag14 Q9 Q9 pd pd m9 dp lw cs cs8 as9 as10 hd hd sl sl gr gr (B7 16) (B7 17) (B7 18) (B7 19) (u15 :: ([] : List Nat)) := StW.ev hst0 (VaQ.ev (h26 trivial) h23 h62.1)
    have hut64 : UTb u15 (nI t13) as10 wt11 wf12 := VaQ.ut (h26 trivial) h62.1
    have hevq65 := VaQ.ev (h26 trivial) h23 h62.1
    have hlp66 : LpS K6 (B7 16) (B7 17) Ag14 pd lp9 lw cs8 hd sl hdL slL xb xc := LpS.same hlp (fun lq9 e9 f9 _ _ => h19 lq9 (LpO.be BdE.rfl hlo lq9 e9) (fun z => by cases z) f9) (fun z9 hz9 => ⟨(hevq65.2.1 z9 hz9).1, (hevq65.2.1 z9 hz9).2.1, (hevq65.2.1 z9 hz9).2.2.2.2⟩) (fun _ h9 => h9) (fun z9 h9 => Nat.lt_of_lt_of_le (hlp.1 z9 h9) (by omega)) (by omega) ⟨Nat.le_refl _, fun _ _ => rfl⟩
    have hpd67 : PdS pd pd xb xb xc xc ([] : List Nat) cs cs8 := PdS.wk (PdS.rfl (cs1 := cs)) (by omega)
    have hlr68 : LpR K6 lp9 rL := LpR.same hlr (fun lq9 e9 f9 _ _ => h19 lq9 (LpO.be BdE.rfl hlo lq9 e9) (fun z => by cases z) f9)
    refine lv_aload_n hx hb dX0_ifStatement_18 rfl (lv_at hl 0 rfl) ?_
    refine c_get (v := .int wf12) (C := RX0) (Tc := TX0) (N := 13) (ci := 0) hx hb hq pin_wsX00 hown hE hP hO 24 (sg_24 G h0 a _ _ _ _ _) rfl 10 (by decide) (hq _ pw_157) (fun _ h9 => h9) rfl dX0_ifStatement_19 ?_
    refine lv_istore_n (lv' := [(2, .int wf12), (0, .ref (a 4)), (1, .ref q)]) hx hb dX0_ifStatement_22 rfl hl (by decide) rfl (fun ls hl => ?_)
    refine lv_aload_n hx hb dX0_ifStatement_23 rfl (lv_at hl 1 rfl) ?_
    refine lv_aload_n hx hb dX0_ifStatement_24 rfl (lv_at hl 1 rfl) ?_
    refine c_get (v := .int wt11) (C := RX0) (Tc := TX0) (N := 13) (ci := 0) hx hb hq pin_wsX00 hown hE hP hO 24 (sg_24 G h0 a _ _ _ _ _) rfl 9 (by decide) (hq _ pw_156) (fun _ h9 => h9) rfl dX0_ifStatement_25 ?_
    refine c_put (v := .int wt11) (ty := .int) (C := RX0) (Tc := TX0) (N := 13) (ci := 0) hx hb hq pin_wsX00 tyX0 tyX0_ok nmX0 hown hE hP hD hS hO 24 (sg_24 G h0 a _ _ _ _ _) rfl 8 (by decide) (hq _ pw_55) (fun _ h9 => h9) rfl (by decide +kernel) rfl rfl (Nat.le_of_ble_eq_true rfl) (sf_13 G h0 a _ _ _ _ _ wt11) dX0_ifStatement_28 (fun H locs w hP hD hS hO => ?_)
    refine lv_aload_n hx hb dX0_ifStatement_31 rfl (lv_at hl 1 rfl) ?_
    refine c_get (v := .ref (a 2)) (C := RX0) (Tc := TX0) (N := 13) (ci := 0) hx hb hq pin_wsX00 hown hE hP hO 24 (sg_24 G h0 a _ _ _ _ _) rfl 1 (by decide) (hq _ pw_5) (fun _ h9 => h9) rfl dX0_ifStatement_32 ?_
    refine lv_bipush (v := 7) hx hb dX0_ifStatement_35 (by decide) ?_
    refine lv_iconst (v := (-1)) hx hb dX0_ifStatement_37 (by decide) ?_
    refine lv_iconst (v := 0) hx hb dX0_ifStatement_38 (by decide) ?_
    have hbo69 := UTb.tru hut64 h23 h62
    have hawf : ¬ wf12 = -1 → ¬ as9 = -1 := h25.2.2.ne
    have hO : OKW G h0 a (upd (upd (upd (upd (upd (upd (upd (upd (upd (upd (upd (upd F 2 (nI sz)) 5 (nI cs8)) 6 (nI rg)) 7 (nI hd)) 8 (nI dp)) 12 (nI vr)) 13 wt11) 14 wt11) 15 wf12) 16 ls9) 5 (nI cs8)) 7 (nI hd)) (updR (updR (updR R 2 (.ref pq)) 3 (.ref mq)) 4 (va_rf lp9)) Z B7 J K6.1 (fun q99 x99 => x99 = rep G a K6 q99) w := hO.to rfl
    obtain ⟨_, qr73, hqr74⟩ := hO.2.1 13 _ (sg_13 G h0 a _ _ _ _ _)
    refine pc_V0 (G := G) (As := [.int 7, .int (-1), .int 0]) (rest := []) hx hb hml hown hq hE hX pX0_al hP hD hS hA hl.1 (Y_jump l G h0 a (upd (upd (upd (upd (upd (upd (upd (upd (upd (upd F 2 (nI sz)) 5 (nI cs8)) 6 (nI rg)) 7 (nI hd)) 8 (nI dp)) 12 (nI vr)) 13 wt11) 14 wt11) 15 wf12) 16 ls9) (updR (updR (updR R 2 (.ref pq)) 3 (.ref mq)) 4 (va_rf lp9)) Z B7 J K6.1 (fun q99 x99 => x99 = rep G a K6 q99) w 7 (-1) 0 cs8 hd (by omega) hO) (gV pw_197 pw_198 pw_199 pw_70 pw_132) hV_X1_jump qr73 1 hqr74 rfl rfl rfl (Nat.le_of_ble_eq_true rfl) dX0_ifStatement_39 ⟨(by show 0 + 0 ≤ ((rE (g 2 q) - rS (g 2 q)) + 1); omega), (by show 0 + 0 ≤ (6 * (rE (g 2 q) - rS (g 2 q)) + 6); omega)⟩ ⟨(by show 3 + 1 ≤ (5 * n + 46); omega), (by show 8 + (4 + 11) + 83 ≤ (200 * n + 1120); omega)⟩ (fun v72 u70 H locs hw71 hP hD hS => ?_)
    obtain ⟨w, _⟩ := u70
    obtain ⟨hw71, hO⟩ := hw71
    obtain rfl : v72 = some (.int (nI cs8)) := hw71
    have hO : OKP G h0 a (upd (upd (upd (upd (upd (upd (upd (upd (upd (upd F 2 (nI sz)) 5 (nI (cs8 + 1))) 6 (nI rg)) 7 (nI hd)) 8 (nI dp)) 12 (nI vr)) 13 wt11) 14 wt11) 15 wf12) 16 ls9) (updR (updR (updR R 2 (.ref pq)) 3 (.ref mq)) 4 (va_rf lp9)) Z (updA (updA (updA (updA B7 16 (upd ((B7 16)) cs8 7)) 17 (upd ((B7 17)) cs8 (-1))) 18 (upd ((B7 18)) cs8 0)) 19 (upd ((B7 19)) cs8 (nI hd))) J K6 w := hO.to rfl
    refine W.widen (k := 0) (n := 0) (Nat.le_of_ble_eq_true rfl) (Nat.le_of_ble_eq_true rfl) ?_
    refine W.eq (g2 := F0 m 42 ls [.int (nI cs8)]) rfl ?_
    have hsw75 : ∀ x9 : Nat, x9 < cs → (upd ((B7 16)) cs8 7) x9 = B 16 x9 := fun x9 hx9 => (if_neg (by omega)).trans (hsw46 x9 hx9)
    have hsw76 : ∀ x9 : Nat, x9 < cs → (upd ((B7 17)) cs8 (-1)) x9 = B 17 x9 := fun x9 hx9 => (if_neg (by omega)).trans (hsw47 x9 hx9)
    have hsw77 : ∀ x9 : Nat, x9 < cs → (upd ((B7 18)) cs8 0) x9 = B 18 x9 := fun x9 hx9 => (if_neg (by omega)).trans (hsw48 x9 hx9)
    have hsw78 : ∀ x9 : Nat, x9 < cs → (upd ((B7 19)) cs8 (nI hd)) x9 = B 19 x9 := fun x9 hx9 => (if_neg (by omega)).trans (hsw49 x9 hx9)
    obtain ⟨Ag79, hst80, hag81⟩ : ∃ A5 : Nat → AS, StW pb.1 pb.2.1 pb.2.2.1 pb.2.2.2 Ag A5 Q9 Q9 pd (fun z => pd z ∨ z = cs8) m9 dp lw cs (cs8 + 1) as9 wt11 hd hd sl sl gr gr (upd ((B7 16)) cs8 7) (upd ((B7 17)) cs8 (-1)) (upd ((B7 18)) cs8 0) (upd ((B7 19)) cs8 (nI hd)) ([] : List Nat) ∧ ∀ x9 : Nat, x9 ≤ cs8 → A5 x9 = Ag14 x9 := ⟨(upS Ag14 (cs8 + 1) (rcA wt11, hd, sl, ([] : List Nat))), StW.jmp (k := 7) hst63 (by show 1 ≤ 248; omega) (by decide) (fun z9 hz9 => ⟨fun h9 => Or.inl h9, fun h9 => h9.resolve_right (by omega)⟩) (Or.inr rfl) (fun z9 e9 => z9 (hbo69.2.1.mp e9).1), fun x9 hx9 => upS_ne (by omega)⟩
    have hlp82 : LpS K6 (upd ((B7 16)) cs8 7) (upd ((B7 17)) cs8 (-1)) Ag79 (fun z => pd z ∨ z = cs8) lp9 lw (cs8 + 1) hd sl hdL slL xb xc := LpS.same hlp66 (fun _ _ _ _ _ => rfl) (fun z9 hz9 => ⟨if_neg (by omega), if_neg (by omega), hag81 z9 (by omega)⟩) (fun _ h9 => Or.inl h9) (fun z9 h9 => h9.elim (fun h8 => Nat.lt_succ_of_lt (hlp66.1 z9 h8)) (fun h8 => by omega)) (by omega) ⟨Nat.le_refl _, fun _ _ => rfl⟩
    have hng83 : Nng (upd ((B7 18)) cs8 0) := Nng.set hng45 (k := 0) (by omega)
    have hpd84 : PdS pd (fun z => pd z ∨ z = cs8) xb xb xc xc (cs8 :: ([] : List Nat)) cs (cs8 + 1) := PdS.jmp hpd67 (LpS.lt hlp66).1 (LpS.lt hlp66).2 (by omega)
    have hj85 : (upd ((B7 16)) cs8 7) cs8 = (nI 7) := if_pos rfl
    have hj86 : (upd ((B7 17)) cs8 (-1)) cs8 = ((-1) : Int32) := if_pos rfl
    have hj87 : (upd ((B7 18)) cs8 0) cs8 = (0 : Int32) := if_pos rfl
    have hj88 : Ag79 cs8 = (rcA as10, hd, sl, (u15 :: ([] : List Nat))) := (hag81 cs8 (Nat.le_refl _)).trans hst63.1.1.2
    have hj89 : Ag79 (cs8 + 1) = (rcA wt11, hd, sl, ([] : List Nat)) := hst80.1.1.2
    refine lv_istore_n (lv' := [(3, .int (nI cs8)), (2, .int wf12), (0, .ref (a 4)), (1, .ref q)]) hx hb dX0_ifStatement_42 rfl hl (by decide) rfl (fun ls hl => ?_)
    refine lv_aload_n hx hb dX0_ifStatement_43 rfl (lv_at hl 2 rfl) ?_
    refine lv_aload_n hx hb dX0_ifStatement_44 rfl (lv_at hl 3 rfl) ?_
    refine p_get (v := .ref q2) (C := RX7) (Tc := TX7) (N := 11) (ci := 13) hx hb hq pin_wsX70 hown hE hP hO (by rw [hf35]; decide) (rep_1 hf35) rfl 7 (by decide) (hq _ pw_169) (fun _ h9 => h9) (congrArg (fun z => some (va_rf z)) hf40) dX0_ifStatement_45 ?_
    refine lv_iconst (v := 1) hx hb dX0_ifStatement_48 (by decide) ?_
    have htl90 : tlE g q2 = rE (g 2 q2) - rS (g 2 q2) := rfl
    have hO : OKP G h0 a (upd (upd (upd (upd (upd (upd (upd (upd (upd (upd (upd (upd (upd (upd (upd (upd (upd (upd (upd (upd F 2 (nI sz)) 5 (nI cs)) 6 (nI rg)) 7 (nI hd)) 8 (nI dp)) 12 (nI vr)) 13 as9) 16 ls9) 5 (nI (cs8 + 1))) 13 wt11) 14 wt11) 15 wf12) 2 (nI sz)) 5 (nI (cs8 + 1))) 6 (nI rg)) 7 (nI hd)) 8 (nI dp)) 12 (nI vr)) 13 wt11) 16 ls9) (updR (updR (updR (updR (updR (updR R 2 (.ref pq)) 3 (.ref mq)) 4 (va_rf lp9)) 2 (.ref pq)) 3 (.ref mq)) 4 (va_rf lp9)) Z (updA (updA (updA (updA B7 16 (upd ((B7 16)) cs8 7)) 17 (upd ((B7 17)) cs8 (-1))) 18 (upd ((B7 18)) cs8 0)) 19 (upd ((B7 19)) cs8 (nI hd))) J K6 w := hO.to rfl
    obtain ⟨_, qr94, hqr95⟩ := hO.2.1 24 _ (sg_24 G h0 a _ _ _ _ _)
    refine pn_V0 (G := G) (As := [.ref q2, .int (nI 1)]) (rest := []) hx hb hml hown hq hE hX pX0_al hP hD hS hA hl.1 ((ist (n - 1) (by omega)) h0 a (upd (upd (upd (upd (upd (upd (upd (upd (upd (upd (upd (upd F 2 (nI sz)) 5 (nI cs)) 6 (nI rg)) 7 (nI hd)) 8 (nI dp)) 12 (nI vr)) 13 as9) 16 ls9) 5 (nI (cs8 + 1))) 13 wt11) 14 wt11) 15 wf12) (updR (updR (updR R 2 (.ref pq)) 3 (.ref mq)) 4 (va_rf lp9)) Z (updA (updA (updA (updA B7 16 (upd ((B7 16)) cs8 7)) 17 (upd ((B7 17)) cs8 (-1))) 18 (upd ((B7 18)) cs8 0)) 19 (upd ((B7 19)) cs8 (nI hd))) J K6 w pq dr ml nd nm cp it s9 q2 mq (cs8 + 1) vr sz 1 hd dp rg ls9 lp9 g rk pb Ag79 Q9 (fun z => pd z ∨ z = cs8) sl m9 lw c0 rt gr wt11 hdL slL xb xc rL (by omega) (BdE.wp hbe43 hwp) (BdE.pt hbe43 hwp hps) (BdE.rko hbe43 hrk) (by omega) (by omega) hng83 hf36 hf41 ⟨hv1.1, (by have z9 := hv1; omega)⟩ hf37 hrv (by omega) (by omega) (by omega) (LpO.be hbe43 hlo) (EkA.be hbe43 ((BtR.up (BtR.up (BtR.up (BtR.up hbr51 (by omega)) (by omega)) (by omega)) (by omega)) 7 (by decide)) ((BtR.up (BtR.up (BtR.up (BtR.up hbr51 (by omega)) (by omega)) (by omega)) (by omega)) 11 (by decide)) hek) (OwC.be hbe43 hmq hdr0 hcO) (NaB.be hbe43 hbf50 hwp hps.2.1 hdr0 ((BtR.up (BtR.up (BtR.up (BtR.up hbr51 (by omega)) (by omega)) (by omega)) (by omega)) 11 (by decide)) hna) hen53 hao55.2.1 hst80.1 (by omega) (by omega) (by omega) (SkA.be hbe43 ((BtR.up (BtR.up (BtR.up (BtR.up hbr51 (by omega)) (by omega)) (by omega)) (by omega)) 11 (by decide)) hsk) hlp82 hrq56 (fun z9 => hrL (hst80.2.2.2.2.2.1 z9)) hlr68 (by omega) hO hl0) (gV pw_300 pw_301 pw_302 pw_63 pw_323) hV_X0_statement qr94 0 hqr95 rfl rfl rfl (Nat.le_of_ble_eq_true rfl) dX0_ifStatement_49 ⟨(by show 0 + ((rE (g 2 q2) - rS (g 2 q2)) + 1) ≤ ((rE (g 2 q) - rS (g 2 q)) + 1); omega), (by show 0 + (6 * (rE (g 2 q2) - rS (g 2 q2)) + 6) ≤ (6 * (rE (g 2 q) - rS (g 2 q)) + 6); omega)⟩ ⟨(by show (5 * (n - 1) + 50) + 1 ≤ (5 * n + 46); omega), (by show 8 + (3 + 11) + (200 * (n - 1) + 1200) ≤ (200 * n + 1120); omega)⟩ (fun v93 u91 H locs hw92 hP hD hS => ?_) (fun ux ce9 q9 H9 locs9 hux hP9 hD9 hS9 hce hcv hcl => pb_out ux (ThQ.up (Thx.same (Thx.same (Thx.same (Thx.same (Thx.same (Thx.same (Thx.same (Thx.same (Thx.b (Thx.b8 (Thx.b (Thx.b (Thx.f (Thx.f (Thx.f (Thx.f (Bth.thx hbb44) (by omega)) (by omega)) (by omega)) (by omega)) (by omega) (by decide)) (by omega) (by decide)) hng83) (by omega) (by decide)) rfl) rfl) rfl) rfl) rfl) rfl) rfl) rfl) (show RhX (updR (updR (updR R 2 (.ref pq)) 3 (.ref mq)) 4 (va_rf lp9)) (updR (updR (updR (updR (updR (updR R 2 (.ref pq)) 3 (.ref mq)) 4 (va_rf lp9)) 2 (.ref pq)) 3 (.ref mq)) 4 (va_rf lp9)) from fun k9 hk9 => by unfold updR; simp only [show ¬ k9 = 1 by omega, show ¬ k9 = 2 by omega, show ¬ k9 = 3 by omega, show ¬ k9 = 4 by omega, if_false]) hux) hnt hlocks hce hcv hcl hP9 hD9 hS9 (by show 0 + ((rE (g 2 q2) - rS (g 2 q2)) + 1) ≤ ((rE (g 2 q) - rS (g 2 q)) + 1); omega) (by show 0 + (6 * (rE (g 2 q2) - rS (g 2 q2)) + 6) ≤ (6 * (rE (g 2 q) - rS (g 2 q)) + 6); omega))
    obtain ⟨w, K96, B97, cs98, as99, wt100, wf101, vr102, hd103, dp104, Ag105, sl106, rg107, gr108, ls109, Q110, pd111, xb112, xc113⟩ := u91
    obtain ⟨hw92, h114, h115, h116, h117, h118, h119, h120, h121, h122, h123, h124, h125, h126, h127, h128, h129, h130, h131, h132, h133, hO⟩ := hw92
    have h114 : SmW (updA (updA (updA (updA B7 16 (upd ((B7 16)) cs8 7)) 17 (upd ((B7 17)) cs8 (-1))) 18 (upd ((B7 18)) cs8 0)) 19 (upd ((B7 19)) cs8 (nI hd))) B97 (cs8 + 1) := h114
    have h115 : BdE K6 K96 := h115
    have h116 : BeF K6 K96 := h116
    have h117 : BeL K6 K96 lp9 := h117
    have h118 : Bth (updA (updA (updA (updA B7 16 (upd ((B7 16)) cs8 7)) 17 (upd ((B7 17)) cs8 (-1))) 18 (upd ((B7 18)) cs8 0)) 19 (upd ((B7 19)) cs8 (nI hd))) B97 := h118
    have h119 : BtR (updA (updA (updA (updA B7 16 (upd ((B7 16)) cs8 7)) 17 (upd ((B7 17)) cs8 (-1))) 18 (upd ((B7 18)) cs8 0)) 19 (upd ((B7 19)) cs8 (nI hd))) B97 := h119
    have h120 : (cs8 + 1) ≤ cs98 ∧ cs98 + 0 ≤ (cs8 + 1) + 2 * tlE g q2 := h120
    have h121 : dp ≤ dp104 ∧ dp104 ≤ 71 := h121
    have h122 : vr ≤ vr102 ∧ vr102 ≤ 30 ∧ hd103 + vr = hd + vr102 := h122
    have h123 : AsO as99 := h123
    have h124 : VrS (updA (updA (updA (updA B7 16 (upd ((B7 16)) cs8 7)) 17 (upd ((B7 17)) cs8 (-1))) 18 (upd ((B7 18)) cs8 0)) 19 (upd ((B7 19)) cs8 (nI hd))) B97 vr := h124
    have h125 : (cs8 + 1) < cs98 ∨ (hd103 = hd ∧ sl106 = sl) := h125
    have h126 : ¬ K6.2.1 0 q2 = 22 → hd103 = hd := h126
    have h127 : gr ≤ gr108 ∧ rg107 ≤ 625 ∧ rg107 ≤ gr108 ∧ (rg107 = 625 ∨ rg107 = gr108) := h127
    have h128 : EnV (B97 26) (B97 27) nd vr102 hd103 c0 sl106 := h128
    have h129 : StW pb.1 pb.2.1 pb.2.2.1 pb.2.2.2 Ag79 Ag105 Q9 Q110 (fun z => pd z ∨ z = cs8) pd111 m9 dp104 lw (cs8 + 1) cs98 wt11 as99 hd hd103 sl sl106 gr gr108 (B97 16) (B97 17) (B97 18) (B97 19) [] := h129
    have h130 : LpS K96 (B97 16) (B97 17) Ag105 pd111 lp9 lw cs98 hd103 sl106 hdL slL xb112 xc113 := h130
    have h131 : PdS (fun z => pd z ∨ z = cs8) pd111 xb xb112 xc xc113 [] (cs8 + 1) cs98 := h131
    have h132 : RgQx B97 Q110 gr108 nd := h132
    have h133 : LpR K96 lp9 rL := h133
    obtain rfl : v93 = none := hw92
    have hf134 : K96.1 pq = 7 := (BdE.T h115 hf28 (by decide))
    have hf135 : K96.2.2.1 18 pq = some (a 1) := (BdE.C h115 (by rw [hf28]; decide) 18).trans hf29
    have hf136 : K96.2.2.1 14 pq = some dr := (BdE.C h115 (by rw [hf28]; decide) 14).trans hf30
    have hf137 : K96.1 dr = 8 := (BdE.T h115 hf31 (by decide))
    have hf138 : K96.2.2.1 15 pq = some ml := (BdE.C h115 (by rw [hf28]; decide) 15).trans hf32
    have hf139 : K96.1 ml = 5 := (BdE.T h115 hf33 (by decide))
    have hf140 : K96.2.1 24 pq = (nI nd) := (BdE.I h115 (by rw [hf28]; decide) (by decide) (by decide)).trans hf34
    have hf141 : K96.1 q = 1 := (BdE.T h115 hf35 (by decide))
    have hf142 : K96.1 mq = 3 := (BdE.T h115 hf36 (by decide))
    have hf143 : K96.2.1 10 mq = (nI rt) := (BdE.I h115 (by rw [hf36]; decide) (by decide) (by decide)).trans hf37
    have hf144 : K96.2.2.1 0 q = some q1 := (BdE.C h115 (by rw [hf35]; decide) 0).trans hf38
    have hf145 : K96.1 q1 = 1 := (BdE.T h115 hf39 (by decide))
    have hf146 : K96.2.2.1 1 q = some q2 := (BdE.C h115 (by rw [hf35]; decide) 1).trans hf40
    have hf147 : K96.1 q2 = 1 := (BdE.T h115 hf41 (by decide))
    have hf148 : K96.2.2.1 2 q = none := (BdE.C h115 (by rw [hf35]; decide) 2).trans hf42
    have hO : OKP G h0 a (upd (upd (upd (upd (upd (upd (upd (upd (upd (upd F 2 (nI sz)) 5 (nI cs98)) 6 (nI rg107)) 7 (nI hd103)) 8 (nI dp104)) 12 (nI vr102)) 13 as99) 14 wt100) 15 wf101) 16 ls109) (updR (updR (updR R 2 (.ref pq)) 3 (.ref mq)) 4 (va_rf lp9)) Z B97 J K96 w := hO.to rfl
    refine W.widen (k := (rE (g 2 q2) - rS (g 2 q2))) (n := (6 * (rE (g 2 q2) - rS (g 2 q2)))) (by show 0 + (rE (g 2 q2) - rS (g 2 q2)) ≤ (rE (g 2 q2) - rS (g 2 q2)); omega) (by show 0 + (6 * (rE (g 2 q2) - rS (g 2 q2))) ≤ (6 * (rE (g 2 q2) - rS (g 2 q2))); omega) ?_
    refine W.eq (g2 := F0 m 52 ls []) rfl ?_
    have hbe149 := BdE.trans hbe43 h115
    have hbb150 : Bth B B97 := Bth.trans (show Thx (upd (upd (upd (upd (upd (upd (upd (upd F 2 (nI sz)) 5 (nI cs)) 6 (nI rg)) 7 (nI hd)) 8 (nI dp)) 12 (nI vr)) 13 as9) 16 ls9) (upd (upd (upd (upd (upd (upd (upd (upd (upd (upd (upd (upd F 2 (nI sz)) 5 (nI cs)) 6 (nI rg)) 7 (nI hd)) 8 (nI dp)) 12 (nI vr)) 13 as9) 16 ls9) 5 (nI (cs8 + 1))) 13 wt11) 14 wt11) 15 wf12) B (updA (updA (updA (updA B7 16 (upd ((B7 16)) cs8 7)) 17 (upd ((B7 17)) cs8 (-1))) 18 (upd ((B7 18)) cs8 0)) 19 (upd ((B7 19)) cs8 (nI hd))) from (Thx.b (Thx.b8 (Thx.b (Thx.b (Thx.f (Thx.f (Thx.f (Thx.f (Bth.thx hbb44) (by omega)) (by omega)) (by omega)) (by omega)) (by omega) (by decide)) (by omega) (by decide)) hng83) (by omega) (by decide))).2 h118
    have hng151 : Nng (B97 18) := h118.2 hng83
    have hsw152 : ∀ x9 : Nat, x9 < cs → (B97 16) x9 = B 16 x9 := fun x9 hx9 => ((h114 x9 (by omega)).1).trans (hsw75 x9 hx9)
    have hsw153 : ∀ x9 : Nat, x9 < cs → (B97 17) x9 = B 17 x9 := fun x9 hx9 => ((h114 x9 (by omega)).2.1).trans (hsw76 x9 hx9)
    have hsw154 : ∀ x9 : Nat, x9 < cs → (B97 18) x9 = B 18 x9 := fun x9 hx9 => ((h114 x9 (by omega)).2.2.1).trans (hsw77 x9 hx9)
    have hsw155 : ∀ x9 : Nat, x9 < cs → (B97 19) x9 = B 19 x9 := fun x9 hx9 => ((h114 x9 (by omega)).2.2.2).trans (hsw78 x9 hx9)
    have hbf156 := BeF.trans hbf50 h116 hbe43
    have hbl158 : BeL K K96 lp9 := BeL.trans hbl52 h117 hbe43
    have hbr157 : BtR B B97 := BtR.trans (BtR.up (BtR.up (BtR.up (BtR.up hbr51 (by omega)) (by omega)) (by omega)) (by omega)) h119
    have hvs159 : VrS B B97 vr := VrS.trans hvs54 h124 (by omega)
    have hst160 : StW pb.1 pb.2.1 pb.2.2.1 pb.2.2.2 Ag Ag105 Q9 Q110 pd pd111 m9 dp104 lw cs cs98 as9 as99 hd hd103 sl sl106 gr gr108 (B97 16) (B97 17) (B97 18) (B97 19) ([] : List Nat) := StW.seq hst80 (by omega) (fun x9 hx9 => ⟨(h114 x9 hx9).1, (h114 x9 hx9).2.1⟩) h129
    have hsn161 := hst160.1.2.2.2.1
    have hpd162 : PdS pd pd111 xb xb112 xc xc113 (cs8 :: ([] : List Nat)) cs cs98 := PdS.call hpd84 h131 (by omega) (by omega)
    have hj163 : (B97 16) cs8 = (nI 7) := ((h114 cs8 (by omega)).1).trans hj85
    have hj164 : (B97 17) cs8 = ((-1) : Int32) := ((h114 cs8 (by omega)).2.1).trans hj86
    have hj165 : (B97 18) cs8 = (0 : Int32) := ((h114 cs8 (by omega)).2.2.1).trans hj87
    have hj166 : Ag105 cs8 = (rcA as10, hd, sl, (u15 :: ([] : List Nat))) := (h129.2.2.1 cs8 (by omega)).trans hj88
    have hj167 : Ag105 (cs8 + 1) = (rcA wt11, hd, sl, ([] : List Nat)) := (h129.2.2.1 (cs8 + 1) (by omega)).trans hj89
    have hnlhd103 : hd103 = hd := h126 (by rw [BdE.I hbe43 (by rw [hsnl.1]; decide) (by decide) (by decide)]; exact hsnl.2)
    obtain rfl : vr = vr102 := by omega
    obtain rfl : hd = hd103 := hnlhd103.symm
    have h114 : SmW (updA (updA (updA (updA B7 16 (upd ((B7 16)) cs8 7)) 17 (upd ((B7 17)) cs8 (-1))) 18 (upd ((B7 18)) cs8 0)) 19 (upd ((B7 19)) cs8 (nI hd))) B97 (cs8 + 1) := h114
    have h115 : BdE K6 K96 := h115
    have h116 : BeF K6 K96 := h116
    have h117 : BeL K6 K96 lp9 := h117
    have h118 : Bth (updA (updA (updA (updA B7 16 (upd ((B7 16)) cs8 7)) 17 (upd ((B7 17)) cs8 (-1))) 18 (upd ((B7 18)) cs8 0)) 19 (upd ((B7 19)) cs8 (nI hd))) B97 := h118
    have h119 : BtR (updA (updA (updA (updA B7 16 (upd ((B7 16)) cs8 7)) 17 (upd ((B7 17)) cs8 (-1))) 18 (upd ((B7 18)) cs8 0)) 19 (upd ((B7 19)) cs8 (nI hd))) B97 := h119
    have h120 : (cs8 + 1) ≤ cs98 ∧ cs98 + 0 ≤ (cs8 + 1) + 2 * tlE g q2 := h120
    have h121 : dp ≤ dp104 ∧ dp104 ≤ 71 := h121
    have h122 : vr ≤ vr ∧ vr ≤ 30 ∧ hd + vr = hd + vr := h122
    have h123 : AsO as99 := h123
    have h124 : VrS (updA (updA (updA (updA B7 16 (upd ((B7 16)) cs8 7)) 17 (upd ((B7 17)) cs8 (-1))) 18 (upd ((B7 18)) cs8 0)) 19 (upd ((B7 19)) cs8 (nI hd))) B97 vr := h124
    have h125 : (cs8 + 1) < cs98 ∨ (hd = hd ∧ sl106 = sl) := h125
    have h126 : ¬ K6.2.1 0 q2 = 22 → hd = hd := h126
    have h127 : gr ≤ gr108 ∧ rg107 ≤ 625 ∧ rg107 ≤ gr108 ∧ (rg107 = 625 ∨ rg107 = gr108) := h127
    have h128 : EnV (B97 26) (B97 27) nd vr hd c0 sl106 := h128
    have h129 : StW pb.1 pb.2.1 pb.2.2.1 pb.2.2.2 Ag79 Ag105 Q9 Q110 (fun z => pd z ∨ z = cs8) pd111 m9 dp104 lw (cs8 + 1) cs98 wt11 as99 hd hd sl sl106 gr gr108 (B97 16) (B97 17) (B97 18) (B97 19) [] := h129
    have h130 : LpS K96 (B97 16) (B97 17) Ag105 pd111 lp9 lw cs98 hd sl106 hdL slL xb112 xc113 := h130
    have h131 : PdS (fun z => pd z ∨ z = cs8) pd111 xb xb112 xc xc113 [] (cs8 + 1) cs98 := h131
    have h132 : RgQx B97 Q110 gr108 nd := h132
    have h133 : LpR K96 lp9 rL := h133
    refine lv_aload_n hx hb dX0_ifStatement_52 rfl (lv_at hl 3 rfl) ?_
    refine p_get (v := .null) (C := RX7) (Tc := TX7) (N := 11) (ci := 13) hx hb hq pin_wsX70 hown hE hP hO (by rw [hf141]; decide) (rep_1 hf141) rfl 8 (by decide) (hq _ pw_196) (fun _ h9 => h9) (congrArg (fun z => some (va_rf z)) hf148) dX0_ifStatement_53 ?_
    refine lv_ifnonnullN hx hb dX0_ifStatement_56 ?_
    refine lv_aload_n hx hb dX0_ifStatement_59 rfl (lv_at hl 2 rfl) ?_
    refine c_get (v := .ref (a 2)) (C := RX0) (Tc := TX0) (N := 13) (ci := 0) hx hb hq pin_wsX00 hown hE hP hO 24 (sg_24 G h0 a _ _ _ _ _) rfl 1 (by decide) (hq _ pw_5) (fun _ h9 => h9) rfl dX0_ifStatement_60 ?_
    refine lv_iload_n hx hb dX0_ifStatement_63 rfl (lv_at hl 0 rfl) ?_
    have hao168 := AsO.and h123 hao55.2.2
    have hO : OKW G h0 a (upd (upd (upd (upd (upd (upd (upd (upd (upd (upd (upd F 2 (nI sz)) 5 (nI cs98)) 6 (nI rg107)) 7 (nI hd)) 8 (nI dp104)) 12 (nI vr)) 13 as99) 14 wt100) 15 wf101) 16 ls109) 5 (nI cs98)) (updR (updR (updR R 2 (.ref pq)) 3 (.ref mq)) 4 (va_rf lp9)) Z B97 J K96.1 (fun q99 x99 => x99 = rep G a K96 q99) w := hO.to rfl
    obtain ⟨_, qr172, hqr173⟩ := hO.2.1 13 _ (sg_13 G h0 a _ _ _ _ _)
    refine pc_V0 (G := G) (As := [.int (nI cs8)]) (rest := []) hx hb hml hown hq hE hX pX0_al hP hD hS hA hl.1 (Y_land l G h0 a (upd (upd (upd (upd (upd (upd (upd (upd (upd (upd F 2 (nI sz)) 5 (nI cs98)) 6 (nI rg107)) 7 (nI hd)) 8 (nI dp104)) 12 (nI vr)) 13 as99) 14 wt100) 15 wf101) 16 ls109) (updR (updR (updR R 2 (.ref pq)) 3 (.ref mq)) 4 (va_rf lp9)) Z B97 J K96.1 (fun q99 x99 => x99 = rep G a K96 q99) w (nI cs8) cs98 ([cs8]) (by omega) (ChnJ.one hj164 (by omega)) (fun y9 hy9 => by rw [List.mem_singleton.mp hy9]; omega) hO) (gV pw_200 pw_201 pw_202 pw_70 pw_134) hV_X1_land qr172 1 hqr173 rfl rfl rfl (Nat.le_of_ble_eq_true rfl) dX0_ifStatement_64 ⟨(by show (rE (g 2 q2) - rS (g 2 q2)) + 0 ≤ ((rE (g 2 q) - rS (g 2 q)) + 1); omega), (by show (6 * (rE (g 2 q2) - rS (g 2 q2))) + 0 ≤ (6 * (rE (g 2 q) - rS (g 2 q)) + 6); omega)⟩ ⟨(by show 2 + 1 ≤ (5 * n + 46); omega), (by show 8 + (5 + 11) + 60 ≤ (200 * n + 1120); omega)⟩ (fun v171 u169 H locs hw170 hP hD hS => ?_)
    obtain ⟨w, _⟩ := u169
    obtain ⟨hw170, hO⟩ := hw170
    obtain rfl : v171 = none := hw170
    have hO : OKP G h0 a (upd (upd (upd (upd (upd (upd (upd (upd (upd (upd F 2 (nI sz)) 5 (nI cs98)) 6 (nI rg107)) 7 (nI hd)) 8 (nI dp104)) 12 (nI vr)) 13 as99) 14 wt100) 15 wf101) 16 ls109) (updR (updR (updR R 2 (.ref pq)) 3 (.ref mq)) 4 (va_rf lp9)) Z (updA B97 17 (aim ((B97 17)) ([cs8]) cs98)) J K96 w := hO.to rfl
    refine W.widen (k := (rE (g 2 q2) - rS (g 2 q2))) (n := (6 * (rE (g 2 q2) - rS (g 2 q2)))) (by show (rE (g 2 q2) - rS (g 2 q2)) + 0 ≤ (rE (g 2 q2) - rS (g 2 q2)); omega) (by show (6 * (rE (g 2 q2) - rS (g 2 q2))) + 0 ≤ (6 * (rE (g 2 q2) - rS (g 2 q2))); omega) ?_
    refine W.eq (g2 := F0 m 67 ls []) rfl ?_
    have hsw174 : ∀ x9 : Nat, x9 < cs → (aim ((B97 17)) ([cs8]) cs98) x9 = B 17 x9 := fun x9 hx9 => (aim_no (fun q9 => by have e9 := (in1 (cs := cs) (by omega)) x9 q9; omega)).trans (hsw153 x9 hx9)
    obtain ⟨Ag175, hst176, hag177⟩ : ∃ A5 : Nat → AS, StW pb.1 pb.2.1 pb.2.2.1 pb.2.2.2 Ag A5 Q9 Q110 pd (pdm pd111 [cs8]) m9 dp104 lw cs cs98 as9 (as99 &&& wf12) hd hd sl sl gr gr108 (B97 16) (aim ((B97 17)) ([cs8]) cs98) (B97 18) (B97 19) ([] : List Nat) ∧ ∀ x9 : Nat, x9 < cs98 → A5 x9 = Ag105 x9 := ⟨(upS Ag105 cs98 (rcA (as99 &&& wf12), hd, sl, ([] : List Nat))), StW.ifl hst160 ⟨by omega, by omega⟩ (by omega) hj163 hj166 hj167 hbo69.1 (fun z9 => (hbo69.2.2 z9).1) (fun z9 m9 => and_n2 ((hbo69.2.2 z9).2 m9)) (fun z9 => and_n1 z9) (by omega) (fun z9 e9 => z9 (and_m1.mpr ⟨Classical.byContradiction fun y9 => hst160.2.2.2.2.2.1 y9 e9, Classical.byContradiction fun y9 => hawf y9 e9⟩)) hwfa (by omega), fun x9 hx9 => upS_ne (by omega)⟩
    have hen178 := EnV.back hen hvs159
    have hlp179 : LpS K96 (B97 16) (aim ((B97 17)) ([cs8]) cs98) Ag175 (pdm pd111 [cs8]) lp9 lw cs98 hd sl hdL slL xb112 xc113 := LpS.same (LpS.to (LpS.land (b := (rcA (as99 &&& wf12), hd, sl, ([] : List Nat))) (xs := [cs8]) h130 (LpS.dis hpd162 (fun z9 hz9 => by rw [List.mem_singleton.mp hz9]; exact List.mem_cons_self ..))) hlp) (fun _ _ _ _ _ => rfl) (fun z9 hz9 => ⟨rfl, rfl, (hag177 z9 hz9).trans (upS_ne (by omega)).symm⟩) (fun _ h9 => h9) (fun z9 h9 => h130.1 z9 h9.1) (Nat.le_refl _) ⟨Nat.le_refl _, fun _ _ => rfl⟩
    have hpd180 : PdS pd (pdm pd111 [cs8]) xb xb112 xc xc113 ([] : List Nat) cs cs98 := PdS.all hpd162 hlp.1
    refine lv_aload_n hx hb dX0_ifStatement_67 rfl (lv_at hl 2 rfl) ?_
    refine lv_dup hx hb dX0_ifStatement_68 rfl ?_
    refine c_get (v := .int as99) (C := RX0) (Tc := TX0) (N := 13) (ci := 0) hx hb hq pin_wsX00 hown hE hP hO 24 (sg_24 G h0 a _ _ _ _ _) rfl 8 (by decide) (hq _ pw_55) (fun _ h9 => h9) rfl dX0_ifStatement_69 ?_
    refine lv_iload_n hx hb dX0_ifStatement_72 rfl (lv_at hl 1 rfl) ?_
    refine lv_iand hx hb dX0_ifStatement_73 ?_
    refine lv_topi (fun x181 e182 => ?_)
    obtain rfl : x181 = (as99 &&& wf12) := e182
    refine c_put (v := .int (as99 &&& wf12)) (ty := .int) (C := RX0) (Tc := TX0) (N := 13) (ci := 0) hx hb hq pin_wsX00 tyX0 tyX0_ok nmX0 hown hE hP hD hS hO 24 (sg_24 G h0 a _ _ _ _ _) rfl 8 (by decide) (hq _ pw_55) (fun _ h9 => h9) rfl (by decide +kernel) rfl rfl (Nat.le_of_ble_eq_true rfl) (sf_13 G h0 a _ _ _ _ _ (as99 &&& wf12)) dX0_ifStatement_74 (fun H locs w hP hD hS hO => ?_)
    refine W_size (fun hz1 hz2 => ?_)
    refine vx_ret ?_
    have hz183 : SmW B (updA B97 17 (aim ((B97 17)) ([cs8]) cs98)) cs := (fun x9 hx9 => ⟨hsw152 x9 hx9, hsw174 x9 hx9, hsw154 x9 hx9, hsw155 x9 hx9⟩)
    have hz184 : BdE K K96 := hbe149
    have hz185 : BeF K K96 := hbf156
    have hz186 : BeL K K96 lp9 := hbl158
    have hz187 : Bth B (updA B97 17 (aim ((B97 17)) ([cs8]) cs98)) := (show Thx (upd (upd (upd (upd (upd (upd (upd (upd F 2 (nI sz)) 5 (nI cs)) 6 (nI rg)) 7 (nI hd)) 8 (nI dp)) 12 (nI vr)) 13 as9) 16 ls9) (upd (upd (upd (upd (upd (upd (upd (upd (upd (upd (upd (upd (upd (upd (upd F 2 (nI sz)) 5 (nI cs)) 6 (nI rg)) 7 (nI hd)) 8 (nI dp)) 12 (nI vr)) 13 as9) 16 ls9) 5 (nI cs98)) 6 (nI rg107)) 8 (nI dp104)) 13 (as99 &&& wf12)) 14 wt100) 15 wf101) 16 ls109) B (updA B97 17 (aim ((B97 17)) ([cs8]) cs98)) from (Thx.b (Thx.f (Thx.f (Thx.f (Thx.f (Thx.f (Thx.f (Thx.f (Bth.thx hbb150) (by omega)) (by omega)) (by omega)) (by omega)) (by omega)) (by omega)) (by omega)) (by omega) (by decide))).2
    have hz188 : BtR B (updA B97 17 (aim ((B97 17)) ([cs8]) cs98)) := (BtR.up hbr157 (by omega))
    have hz189 : cs ≤ cs98 ∧ cs98 + 1 ≤ cs + 2 * tlE g q := (by omega)
    have hz190 : dp ≤ dp104 ∧ dp104 ≤ 71 := (by omega)
    have hz191 : AsO (as99 &&& wf12) := hao168
    have hz192 : VrS B (updA B97 17 (aim ((B97 17)) ([cs8]) cs98)) vr := hvs159
    have hz193 : gr ≤ gr108 ∧ rg107 ≤ 625 ∧ rg107 ≤ gr108 ∧ (rg107 = 625 ∨ rg107 = gr108) := (by omega)
    have hz194 : EnV ((updA B97 17 (aim ((B97 17)) ([cs8]) cs98)) 26) ((updA B97 17 (aim ((B97 17)) ([cs8]) cs98)) 27) nd vr hd c0 sl := hen178
    have hz195 : StW pb.1 pb.2.1 pb.2.2.1 pb.2.2.2 Ag Ag175 Q9 Q110 pd (pdm pd111 [cs8]) m9 dp104 lw cs cs98 as9 (as99 &&& wf12) hd hd sl sl gr gr108 ((updA B97 17 (aim ((B97 17)) ([cs8]) cs98)) 16) ((updA B97 17 (aim ((B97 17)) ([cs8]) cs98)) 17) ((updA B97 17 (aim ((B97 17)) ([cs8]) cs98)) 18) ((updA B97 17 (aim ((B97 17)) ([cs8]) cs98)) 19) [] := hst176
    have hz196 : LpS K96 ((updA B97 17 (aim ((B97 17)) ([cs8]) cs98)) 16) ((updA B97 17 (aim ((B97 17)) ([cs8]) cs98)) 17) Ag175 (pdm pd111 [cs8]) lp9 lw cs98 hd sl hdL slL xb112 xc113 := hlp179
    have hz197 : PdS pd (pdm pd111 [cs8]) xb xb112 xc xc113 [] cs cs98 := hpd180
    have hz198 : RgQx (updA B97 17 (aim ((B97 17)) ([cs8]) cs98)) Q110 gr108 nd := h132
    have hz199 : LpR K96 lp9 rL := h133
    have hO : OKP G h0 a (upd (upd (upd (upd (upd (upd (upd (upd (upd (upd F 2 (nI sz)) 5 (nI cs98)) 6 (nI rg107)) 7 (nI hd)) 8 (nI dp104)) 12 (nI vr)) 13 (as99 &&& wf12)) 14 wt100) 15 wf101) 16 ls109) (updR (updR (updR R 2 (.ref pq)) 3 (.ref mq)) 4 (va_rf lp9)) Z (updA B97 17 (aim ((B97 17)) ([cs8]) cs98)) J K96 w := hO.to rfl
    refine W.widen (k := ((rE (g 2 q) - rS (g 2 q)) + 1)) (n := (6 * (rE (g 2 q) - rS (g 2 q)) + 6)) (by omega) (by omega) ?_
    have hzz1 : H.size ≤ s.heap.size + ((rE (g 2 q) - rS (g 2 q))) := (by have z : (rE (g 2 q2) - rS (g 2 q2)) ≤ (rE (g 2 q) - rS (g 2 q)) := (by omega); omega)
    have hzz2 : hSl H ≤ hSl s.heap + ((6 * (rE (g 2 q) - rS (g 2 q)))) := (by have z : (6 * (rE (g 2 q2) - rS (g 2 q2))) ≤ (6 * (rE (g 2 q) - rS (g 2 q))) := (by omega); omega)
    exact W.vret hx hb hr (fun t99 ht99 hW99 => ⟨⟨_, (w, (K96, (updA B97 17 (aim ((B97 17)) ([cs8]) cs98)), cs98, (as99 &&& wf12), wt100, wf101, dp104, Ag175, rg107, gr108, ls109, Q110, (pdm pd111 [cs8]), xb112, xc113)), rfl, ⟨rfl, hz183, hz184, hz185, hz186, hz187, hz188, hz189, hz190, hz191, hz192, hz193, hz194, hz195, hz196, hz197, hz198, hz199, hO⟩, by rw [ht99]; exact hP, hD, by rw [ht99]; exact hzz1, by rw [ht99]; exact hzz2⟩, hS.F ht99⟩) hS.2.2 dX0_ifStatement_77
  · skip
    rw [hos2] at hst9
    have hst8 : tlE g q1 + tlE g q2 + tlE g q3 + 3 ≤ tlE g q := hst9
    obtain ⟨hscn, hscT, hscl⟩ := hsc9 q3 hos2
    have hv2 : 1 ≤ g 0 q3 ∧ g 0 q3 + 1 ≤ n := by have z := (hwp.1 q hqT hqL.1).2.1 2 q3 (by decide) hos2; exact ⟨z.2.1, by have z2 := z.2.2.1; omega⟩
    refine lv_aload_n hx hb dX0_ifStatement_0 rfl (lv_at hl 0 rfl) ?_
    refine lv_aload_n hx hb dX0_ifStatement_1 rfl (lv_at hl 1 rfl) ?_
    refine p_get (v := .ref q1) (C := RX7) (Tc := TX7) (N := 11) (ci := 13) hx hb hq pin_wsX70 hown hE hP hO (by rw [hqT]; decide) (rep_1 hqT) rfl 6 (by decide) (hq _ pw_180) (fun _ h9 => h9) (congrArg (fun z => some (va_rf z)) hc0) dX0_ifStatement_2 ?_
    refine lv_aload_n hx hb dX0_ifStatement_5 rfl (lv_at hl 0 rfl) ?_
    refine lv_aload_n hx hb dX0_ifStatement_6 rfl (lv_at hl 1 rfl) ?_
    refine p_get (v := .ref q1) (C := RX7) (Tc := TX7) (N := 11) (ci := 13) hx hb hq pin_wsX70 hown hE hP hO (by rw [hqT]; decide) (rep_1 hqT) rfl 6 (by decide) (hq _ pw_180) (fun _ h9 => h9) (congrArg (fun z => some (va_rf z)) hc0) dX0_ifStatement_7 ?_
    have hO : OKP G h0 a (upd (upd (upd (upd (upd (upd (upd (upd (upd (upd (upd (upd (upd F 2 (nI sz)) 5 (nI cs)) 6 (nI rg)) 7 (nI hd)) 8 (nI dp)) 12 (nI vr)) 13 as9) 16 ls9) 2 (nI sz)) 5 (nI cs)) 7 (nI hd)) 12 (nI vr)) 13 as9) (updR (updR (updR (updR (updR R 2 (.ref pq)) 3 (.ref mq)) 4 (va_rf lp9)) 2 (.ref pq)) 3 (.ref mq)) Z B J K w := hO.to rfl
    obtain ⟨_, qr203, hqr204⟩ := hO.2.1 24 _ (sg_24 G h0 a _ _ _ _ _)
    refine pn_V0 (G := G) (As := [.ref q1]) (rest := [.ref q1, .ref (a 4)]) hx hb hml hown hq hE hX pX0_al hP hD hS hA hl.1 ((PY_all l G (n - 1)) h0 a (upd (upd (upd (upd (upd (upd (upd (upd F 2 (nI sz)) 5 (nI cs)) 6 (nI rg)) 7 (nI hd)) 8 (nI dp)) 12 (nI vr)) 13 as9) 16 ls9) (updR (updR (updR R 2 (.ref pq)) 3 (.ref mq)) 4 (va_rf lp9)) Z B J K w pq dr ml nd nm cp it s9 q1 mq cs vr sz g rk pb Ag pd sl ([] : List Nat) m9 dp lw hd c0 as9 True (by omega) (BdE.wp BdE.rfl hwp) (BdE.pt BdE.rfl hwp hps) (BdE.rko BdE.rfl hrk) (by omega) (by omega) hng hmq ht0 ⟨hv0.1, (by have z9 := hv0; omega)⟩ (EkA.be BdE.rfl (BtR.rfl 7 (by decide)) (BtR.rfl 11 (by decide)) hek) (OwC.be BdE.rfl hmq hdr0 hcO) (NaB.be BdE.rfl BeF.rfl hwp hps.2.1 hdr0 (BtR.rfl 11 (by decide)) hna) hen (fun _ => hst0.1) (by omega) (by show 0 + ndE g q1 ≤ 248; omega) hsa1 hO hl0) (gV pw_173 pw_174 pw_175 pw_63 pw_224) hV_X0_value qr203 0 hqr204 rfl rfl rfl (Nat.le_of_ble_eq_true rfl) dX0_ifStatement_10 ⟨(by show 0 + 1 ≤ ((rE (g 2 q) - rS (g 2 q)) + 1); omega), (by show 0 + 6 ≤ (6 * (rE (g 2 q) - rS (g 2 q)) + 6); omega)⟩ ⟨(by show (5 * (n - 1) + 34) + 1 ≤ (5 * n + 46); omega), (by show 8 + (3 + 11) + (200 * (n - 1) + 600) ≤ (200 * n + 1120); omega)⟩ (fun v202 u200 H locs hw201 hP hD hS => ?_) (fun ux ce9 q9 H9 locs9 hux hP9 hD9 hS9 hce hcv hcl => pb_out ux (ThQ.up (Thx.same (Thx.same (Thx.same (Thx.same (Thx.same Thx.rfl rfl) rfl) rfl) rfl) rfl) (show RhX (updR (updR (updR R 2 (.ref pq)) 3 (.ref mq)) 4 (va_rf lp9)) (updR (updR (updR (updR (updR R 2 (.ref pq)) 3 (.ref mq)) 4 (va_rf lp9)) 2 (.ref pq)) 3 (.ref mq)) from fun k9 hk9 => by unfold updR; simp only [show ¬ k9 = 1 by omega, show ¬ k9 = 2 by omega, show ¬ k9 = 3 by omega, show ¬ k9 = 4 by omega, if_false]) hux) hnt hlocks hce hcv hcl hP9 hD9 hS9 (by show 0 + 1 ≤ ((rE (g 2 q) - rS (g 2 q)) + 1); omega) (by show 0 + 6 ≤ (6 * (rE (g 2 q) - rS (g 2 q)) + 6); omega))
    obtain ⟨w, K205, B206, cs207, as208, wt209, wf210, t211, Ag212, u213⟩ := u200
    obtain ⟨hw201, h214, h215, h216, h217, h218, h219, h220, h221, h222, h223, h224, h225, hO⟩ := hw201
    have h214 : SmW B B206 cs := h214
    have h215 : BdE K K205 := h215
    have h216 : BeF K K205 := h216
    have h217 : BeL K K205 none := h217
    have h218 : BeI K K205 g q1 := h218
    have h219 : Bth B B206 := h219
    have h220 : BeR B B206 := h220
    have h221 : t211 < 128 := h221
    have h222 : cs ≤ cs207 ∧ cs207 + 0 ≤ cs + 2 * tlE g q1 := h222
    have h223 : AsE as9 as208 ∧ AsE as9 wt209 ∧ AsE as9 wf210 := h223
    have h224 : True → VaQ pb B B206 Ag Ag212 pd m9 dp lw cs cs207 as9 as208 wt209 wf210 hd sl ([] : List Nat) t211 u213 (K.2.1 0 q1) := h224
    have h225 : CaK (K.2.1 0 q1) → cs207 + 2 ≤ cs + 2 * tlE g q1 := h225
    obtain rfl : v202 = some (.int (nI t211)) := hw201
    have hf226 : K205.1 pq = 7 := (BdE.T h215 hp1 (by decide))
    have hf227 : K205.2.2.1 18 pq = some (a 1) := (BdE.C h215 (by rw [hp1]; decide) 18).trans hp2
    have hf228 : K205.2.2.1 14 pq = some dr := (BdE.C h215 (by rw [hp1]; decide) 14).trans hp3
    have hf229 : K205.1 dr = 8 := (BdE.T h215 hp4 (by decide))
    have hf230 : K205.2.2.1 15 pq = some ml := (BdE.C h215 (by rw [hp1]; decide) 15).trans hp5
    have hf231 : K205.1 ml = 5 := (BdE.T h215 hp6 (by decide))
    have hf232 : K205.2.1 24 pq = (nI nd) := (BdE.I h215 (by rw [hp1]; decide) (by decide) (by decide)).trans hp8
    have hf233 : K205.1 q = 1 := (BdE.T h215 hqT (by decide))
    have hf234 : K205.1 mq = 3 := (BdE.T h215 hmq (by decide))
    have hf235 : K205.2.1 10 mq = (nI rt) := (BdE.I h215 (by rw [hmq]; decide) (by decide) (by decide)).trans hrt
    have hf236 : K205.2.2.1 0 q = some q1 := (BdE.C h215 (by rw [hqT]; decide) 0).trans hc0
    have hf237 : K205.1 q1 = 1 := (BdE.T h215 ht0 (by decide))
    have hf238 : K205.2.2.1 1 q = some q2 := (BdE.C h215 (by rw [hqT]; decide) 1).trans hc1
    have hf239 : K205.1 q2 = 1 := (BdE.T h215 ht1 (by decide))
    have hf240 : K205.2.2.1 2 q = some q3 := (BdE.C h215 (by rw [hqT]; decide) 2).trans hos2
    have hf241 : K205.1 q3 = 1 := (BdE.T h215 hscT (by decide))
    have hO : OKP G h0 a (upd (upd (upd (upd (upd (upd (upd (upd (upd (upd F 2 (nI sz)) 5 (nI cs207)) 6 (nI rg)) 7 (nI hd)) 8 (nI dp)) 12 (nI vr)) 13 as208) 14 wt209) 15 wf210) 16 ls9) (updR (updR (updR R 2 (.ref pq)) 3 (.ref mq)) 4 (va_rf lp9)) Z B206 J K205 w := hO.to rfl
    refine W.widen (k := 0) (n := 0) (by show 0 + 0 ≤ 0; omega) (by show 0 + 0 ≤ 0; omega) ?_
    refine W.eq (g2 := F0 m 13 ls [.int (nI t211), .ref q1, .ref (a 4)]) rfl ?_
    have hbe242 := BdE.trans BdE.rfl h215
    have hbb243 : Bth B B206 := Bth.trans (show Thx (upd (upd (upd (upd (upd (upd (upd (upd F 2 (nI sz)) 5 (nI cs)) 6 (nI rg)) 7 (nI hd)) 8 (nI dp)) 12 (nI vr)) 13 as9) 16 ls9) (upd (upd (upd (upd (upd (upd (upd (upd F 2 (nI sz)) 5 (nI cs)) 6 (nI rg)) 7 (nI hd)) 8 (nI dp)) 12 (nI vr)) 13 as9) 16 ls9) B B from Thx.rfl).2 h219
    have hng244 : Nng (B206 18) := h219.2 hng
    have hsw245 : ∀ x9 : Nat, x9 < cs → (B206 16) x9 = B 16 x9 := fun x9 hx9 => ((h214 x9 (by omega)).1).trans ((fun _ _ => rfl) x9 hx9)
    have hsw246 : ∀ x9 : Nat, x9 < cs → (B206 17) x9 = B 17 x9 := fun x9 hx9 => ((h214 x9 (by omega)).2.1).trans ((fun _ _ => rfl) x9 hx9)
    have hsw247 : ∀ x9 : Nat, x9 < cs → (B206 18) x9 = B 18 x9 := fun x9 hx9 => ((h214 x9 (by omega)).2.2.1).trans ((fun _ _ => rfl) x9 hx9)
    have hsw248 : ∀ x9 : Nat, x9 < cs → (B206 19) x9 = B 19 x9 := fun x9 hx9 => ((h214 x9 (by omega)).2.2.2).trans ((fun _ _ => rfl) x9 hx9)
    have hbf249 := BeF.trans BeF.rfl h216 BdE.rfl
    have hbl251 : BeL K K205 lp9 := BeL.trans BeL.rfl (BeL.any h217) BdE.rfl
    have hbr250 : BtR B B206 := BtR.trans BtR.rfl (BeR.bt h220)
    have hen252 : EnV (B206 26) (B206 27) nd vr hd c0 sl := EnV.of (h220 26 (by decide)) (h220 27 (by decide)) hen
    have hvs253 : VrS B B206 vr := fun i9 hi9 => ⟨(congrFun (h220 26 (by decide)) i9).trans (VrS.rfl i9 hi9).1, (congrFun (h220 27 (by decide)) i9).trans (VrS.rfl i9 hi9).2⟩
    have hao254 : AsO as208 ∧ AsO wt209 ∧ AsO wf210 := ⟨AsE.aso h223.1 hao, AsE.aso h223.2.1 hao, AsE.aso h223.2.2 hao⟩
    have hrq255 : RgQx B206 Q9 gr nd := RgQx.ber hrq (h220 20 (by decide)) (h220 21 (by decide)) (h220 22 (by decide)) (h220 23 (by decide)) (h220 24 (by decide))
    refine lv_bipush (v := 61) hx hb dX0_ifStatement_13 (by decide) ?_
    have hO : OKP G h0 a (upd (upd (upd (upd (upd (upd (upd (upd (upd (upd (upd (upd (upd F 2 (nI sz)) 5 (nI cs)) 6 (nI rg)) 7 (nI hd)) 8 (nI dp)) 12 (nI vr)) 13 as9) 16 ls9) 5 (nI cs207)) 13 as208) 14 wt209) 15 wf210) 2 (nI sz)) (updR (updR (updR (updR R 2 (.ref pq)) 3 (.ref mq)) 4 (va_rf lp9)) 2 (.ref pq)) Z B206 J K205 w := hO.to rfl
    obtain ⟨_, qr259, hqr260⟩ := hO.2.1 24 _ (sg_24 G h0 a _ _ _ _ _)
    refine pn_V0 (G := G) (As := [.ref q1, .int (nI t211), .int (nI 61)]) (rest := []) hx hb hml hown hq hE hX pX0_al hP hD hS hA hl.1 (Y_fit l G h0 a (upd (upd (upd (upd (upd (upd (upd (upd (upd (upd (upd (upd F 2 (nI sz)) 5 (nI cs)) 6 (nI rg)) 7 (nI hd)) 8 (nI dp)) 12 (nI vr)) 13 as9) 16 ls9) 5 (nI cs207)) 13 as208) 14 wt209) 15 wf210) (updR (updR (updR R 2 (.ref pq)) 3 (.ref mq)) 4 (va_rf lp9)) Z B206 J K205 w pq dr ml nd q1 sz t211 61 g pb (by omega) (BdE.pt hbe242 hwp hps).1 (BdE.pt hbe242 hwp hps).2.1 hf237 (by omega) hna.1.1 (NaB.be hbe242 hbf249 hwp hps.2.1 hdr0 (hbr250 11 (by decide)) hna).1.2.2 hO hl0) (gV pw_176 pw_177 pw_178 pw_63 pw_114) hV_X0_fit qr259 0 hqr260 rfl rfl rfl (Nat.le_of_ble_eq_true rfl) dX0_ifStatement_15 ⟨(by show 0 + 1 ≤ ((rE (g 2 q) - rS (g 2 q)) + 1); omega), (by show 0 + 6 ≤ (6 * (rE (g 2 q) - rS (g 2 q)) + 6); omega)⟩ ⟨(by show 7 + 1 ≤ (5 * n + 46); omega), (by show 8 + (4 + 11) + 122 ≤ (200 * n + 1120); omega)⟩ (fun v258 u256 H locs hw257 hP hD hS => ?_) (fun ux ce9 q9 H9 locs9 hux hP9 hD9 hS9 hce hcv hcl => pb_out ux (ThQ.up (Thx.same (Thx.f (Thx.f (Thx.f (Thx.f (Bth.thx hbb243) (by omega)) (by omega)) (by omega)) (by omega)) rfl) (show RhX (updR (updR (updR R 2 (.ref pq)) 3 (.ref mq)) 4 (va_rf lp9)) (updR (updR (updR (updR R 2 (.ref pq)) 3 (.ref mq)) 4 (va_rf lp9)) 2 (.ref pq)) from fun k9 hk9 => by unfold updR; simp only [show ¬ k9 = 1 by omega, show ¬ k9 = 2 by omega, show ¬ k9 = 3 by omega, show ¬ k9 = 4 by omega, if_false]) hux) hnt hlocks hce hcv hcl hP9 hD9 hS9 (by show 0 + 1 ≤ ((rE (g 2 q) - rS (g 2 q)) + 1); omega) (by show 0 + 6 ≤ (6 * (rE (g 2 q) - rS (g 2 q)) + 6); omega))
    obtain ⟨w, _⟩ := u256
    obtain ⟨hw257, h261, hO⟩ := hw257
    have h261 : FtQ pb t211 61 := h261
    obtain rfl : v258 = none := hw257
    have hO : OKP G h0 a (upd (upd (upd (upd (upd (upd (upd (upd (upd (upd F 2 (nI sz)) 5 (nI cs207)) 6 (nI rg)) 7 (nI hd)) 8 (nI dp)) 12 (nI vr)) 13 as208) 14 wt209) 15 wf210) 16 ls9) (updR (updR (updR R 2 (.ref pq)) 3 (.ref mq)) 4 (va_rf lp9)) Z B206 J K205 w := hO.to rfl
    refine W.widen (k := 0) (n := 0) (by show 0 + 0 ≤ 0; omega) (by show 0 + 0 ≤ 0; omega) ?_
    refine W.eq (g2 := F0 m 18 ls []) rfl ?_
    have hst262 : StW pb.1 pb.2.1 pb.2.2.1 pb.2.2.2 Ag Ag212 Q9 Q9 pd pd m9 dp lw cs cs207 as9 as208 hd hd sl sl gr gr (B206 16) (B206 17) (B206 18) (B206 19) (u213 :: ([] : List Nat)) := StW.ev hst0 (VaQ.ev (h224 trivial) h221 h261.1)
    have hut263 : UTb u213 (nI t211) as208 wt209 wf210 := VaQ.ut (h224 trivial) h261.1
    have hevq264 := VaQ.ev (h224 trivial) h221 h261.1
    have hlp265 : LpS K205 (B206 16) (B206 17) Ag212 pd lp9 lw cs207 hd sl hdL slL xb xc := LpS.same hlp (fun lq9 e9 f9 _ _ => h217 lq9 (LpO.be BdE.rfl hlo lq9 e9) (fun z => by cases z) f9) (fun z9 hz9 => ⟨(hevq264.2.1 z9 hz9).1, (hevq264.2.1 z9 hz9).2.1, (hevq264.2.1 z9 hz9).2.2.2.2⟩) (fun _ h9 => h9) (fun z9 h9 => Nat.lt_of_lt_of_le (hlp.1 z9 h9) (by omega)) (by omega) ⟨Nat.le_refl _, fun _ _ => rfl⟩
    have hpd266 : PdS pd pd xb xb xc xc ([] : List Nat) cs cs207 := PdS.wk (PdS.rfl (cs1 := cs)) (by omega)
    have hlr267 : LpR K205 lp9 rL := LpR.same hlr (fun lq9 e9 f9 _ _ => h217 lq9 (LpO.be BdE.rfl hlo lq9 e9) (fun z => by cases z) f9)
    refine lv_aload_n hx hb dX0_ifStatement_18 rfl (lv_at hl 0 rfl) ?_
    refine c_get (v := .int wf210) (C := RX0) (Tc := TX0) (N := 13) (ci := 0) hx hb hq pin_wsX00 hown hE hP hO 24 (sg_24 G h0 a _ _ _ _ _) rfl 10 (by decide) (hq _ pw_157) (fun _ h9 => h9) rfl dX0_ifStatement_19 ?_
    refine lv_istore_n (lv' := [(2, .int wf210), (0, .ref (a 4)), (1, .ref q)]) hx hb dX0_ifStatement_22 rfl hl (by decide) rfl (fun ls hl => ?_)
    refine lv_aload_n hx hb dX0_ifStatement_23 rfl (lv_at hl 1 rfl) ?_
    refine lv_aload_n hx hb dX0_ifStatement_24 rfl (lv_at hl 1 rfl) ?_
    refine c_get (v := .int wt209) (C := RX0) (Tc := TX0) (N := 13) (ci := 0) hx hb hq pin_wsX00 hown hE hP hO 24 (sg_24 G h0 a _ _ _ _ _) rfl 9 (by decide) (hq _ pw_156) (fun _ h9 => h9) rfl dX0_ifStatement_25 ?_
    refine c_put (v := .int wt209) (ty := .int) (C := RX0) (Tc := TX0) (N := 13) (ci := 0) hx hb hq pin_wsX00 tyX0 tyX0_ok nmX0 hown hE hP hD hS hO 24 (sg_24 G h0 a _ _ _ _ _) rfl 8 (by decide) (hq _ pw_55) (fun _ h9 => h9) rfl (by decide +kernel) rfl rfl (Nat.le_of_ble_eq_true rfl) (sf_13 G h0 a _ _ _ _ _ wt209) dX0_ifStatement_28 (fun H locs w hP hD hS hO => ?_)
    refine lv_aload_n hx hb dX0_ifStatement_31 rfl (lv_at hl 1 rfl) ?_
    refine c_get (v := .ref (a 2)) (C := RX0) (Tc := TX0) (N := 13) (ci := 0) hx hb hq pin_wsX00 hown hE hP hO 24 (sg_24 G h0 a _ _ _ _ _) rfl 1 (by decide) (hq _ pw_5) (fun _ h9 => h9) rfl dX0_ifStatement_32 ?_
    refine lv_bipush (v := 7) hx hb dX0_ifStatement_35 (by decide) ?_
    refine lv_iconst (v := (-1)) hx hb dX0_ifStatement_37 (by decide) ?_
    refine lv_iconst (v := 0) hx hb dX0_ifStatement_38 (by decide) ?_
    have hbo268 := UTb.tru hut263 h221 h261
    have hawf : ¬ wf210 = -1 → ¬ as9 = -1 := h223.2.2.ne
    have hO : OKW G h0 a (upd (upd (upd (upd (upd (upd (upd (upd (upd (upd (upd (upd F 2 (nI sz)) 5 (nI cs207)) 6 (nI rg)) 7 (nI hd)) 8 (nI dp)) 12 (nI vr)) 13 wt209) 14 wt209) 15 wf210) 16 ls9) 5 (nI cs207)) 7 (nI hd)) (updR (updR (updR R 2 (.ref pq)) 3 (.ref mq)) 4 (va_rf lp9)) Z B206 J K205.1 (fun q99 x99 => x99 = rep G a K205 q99) w := hO.to rfl
    obtain ⟨_, qr272, hqr273⟩ := hO.2.1 13 _ (sg_13 G h0 a _ _ _ _ _)
    refine pc_V0 (G := G) (As := [.int 7, .int (-1), .int 0]) (rest := []) hx hb hml hown hq hE hX pX0_al hP hD hS hA hl.1 (Y_jump l G h0 a (upd (upd (upd (upd (upd (upd (upd (upd (upd (upd F 2 (nI sz)) 5 (nI cs207)) 6 (nI rg)) 7 (nI hd)) 8 (nI dp)) 12 (nI vr)) 13 wt209) 14 wt209) 15 wf210) 16 ls9) (updR (updR (updR R 2 (.ref pq)) 3 (.ref mq)) 4 (va_rf lp9)) Z B206 J K205.1 (fun q99 x99 => x99 = rep G a K205 q99) w 7 (-1) 0 cs207 hd (by omega) hO) (gV pw_197 pw_198 pw_199 pw_70 pw_132) hV_X1_jump qr272 1 hqr273 rfl rfl rfl (Nat.le_of_ble_eq_true rfl) dX0_ifStatement_39 ⟨(by show 0 + 0 ≤ ((rE (g 2 q) - rS (g 2 q)) + 1); omega), (by show 0 + 0 ≤ (6 * (rE (g 2 q) - rS (g 2 q)) + 6); omega)⟩ ⟨(by show 3 + 1 ≤ (5 * n + 46); omega), (by show 8 + (4 + 11) + 83 ≤ (200 * n + 1120); omega)⟩ (fun v271 u269 H locs hw270 hP hD hS => ?_)
    obtain ⟨w, _⟩ := u269
    obtain ⟨hw270, hO⟩ := hw270
    obtain rfl : v271 = some (.int (nI cs207)) := hw270
    have hO : OKP G h0 a (upd (upd (upd (upd (upd (upd (upd (upd (upd (upd F 2 (nI sz)) 5 (nI (cs207 + 1))) 6 (nI rg)) 7 (nI hd)) 8 (nI dp)) 12 (nI vr)) 13 wt209) 14 wt209) 15 wf210) 16 ls9) (updR (updR (updR R 2 (.ref pq)) 3 (.ref mq)) 4 (va_rf lp9)) Z (updA (updA (updA (updA B206 16 (upd ((B206 16)) cs207 7)) 17 (upd ((B206 17)) cs207 (-1))) 18 (upd ((B206 18)) cs207 0)) 19 (upd ((B206 19)) cs207 (nI hd))) J K205 w := hO.to rfl
    refine W.widen (k := 0) (n := 0) (Nat.le_of_ble_eq_true rfl) (Nat.le_of_ble_eq_true rfl) ?_
    refine W.eq (g2 := F0 m 42 ls [.int (nI cs207)]) rfl ?_
    have hsw274 : ∀ x9 : Nat, x9 < cs → (upd ((B206 16)) cs207 7) x9 = B 16 x9 := fun x9 hx9 => (if_neg (by omega)).trans (hsw245 x9 hx9)
    have hsw275 : ∀ x9 : Nat, x9 < cs → (upd ((B206 17)) cs207 (-1)) x9 = B 17 x9 := fun x9 hx9 => (if_neg (by omega)).trans (hsw246 x9 hx9)
    have hsw276 : ∀ x9 : Nat, x9 < cs → (upd ((B206 18)) cs207 0) x9 = B 18 x9 := fun x9 hx9 => (if_neg (by omega)).trans (hsw247 x9 hx9)
    have hsw277 : ∀ x9 : Nat, x9 < cs → (upd ((B206 19)) cs207 (nI hd)) x9 = B 19 x9 := fun x9 hx9 => (if_neg (by omega)).trans (hsw248 x9 hx9)
    obtain ⟨Ag278, hst279, hag280⟩ : ∃ A5 : Nat → AS, StW pb.1 pb.2.1 pb.2.2.1 pb.2.2.2 Ag A5 Q9 Q9 pd (fun z => pd z ∨ z = cs207) m9 dp lw cs (cs207 + 1) as9 wt209 hd hd sl sl gr gr (upd ((B206 16)) cs207 7) (upd ((B206 17)) cs207 (-1)) (upd ((B206 18)) cs207 0) (upd ((B206 19)) cs207 (nI hd)) ([] : List Nat) ∧ ∀ x9 : Nat, x9 ≤ cs207 → A5 x9 = Ag212 x9 := ⟨(upS Ag212 (cs207 + 1) (rcA wt209, hd, sl, ([] : List Nat))), StW.jmp (k := 7) hst262 (by show 1 ≤ 248; omega) (by decide) (fun z9 hz9 => ⟨fun h9 => Or.inl h9, fun h9 => h9.resolve_right (by omega)⟩) (Or.inr rfl) (fun z9 e9 => z9 (hbo268.2.1.mp e9).1), fun x9 hx9 => upS_ne (by omega)⟩
    have hlp281 : LpS K205 (upd ((B206 16)) cs207 7) (upd ((B206 17)) cs207 (-1)) Ag278 (fun z => pd z ∨ z = cs207) lp9 lw (cs207 + 1) hd sl hdL slL xb xc := LpS.same hlp265 (fun _ _ _ _ _ => rfl) (fun z9 hz9 => ⟨if_neg (by omega), if_neg (by omega), hag280 z9 (by omega)⟩) (fun _ h9 => Or.inl h9) (fun z9 h9 => h9.elim (fun h8 => Nat.lt_succ_of_lt (hlp265.1 z9 h8)) (fun h8 => by omega)) (by omega) ⟨Nat.le_refl _, fun _ _ => rfl⟩
    have hng282 : Nng (upd ((B206 18)) cs207 0) := Nng.set hng244 (k := 0) (by omega)
    have hpd283 : PdS pd (fun z => pd z ∨ z = cs207) xb xb xc xc (cs207 :: ([] : List Nat)) cs (cs207 + 1) := PdS.jmp hpd266 (LpS.lt hlp265).1 (LpS.lt hlp265).2 (by omega)
    have hj284 : (upd ((B206 16)) cs207 7) cs207 = (nI 7) := if_pos rfl
    have hj285 : (upd ((B206 17)) cs207 (-1)) cs207 = ((-1) : Int32) := if_pos rfl
    have hj286 : (upd ((B206 18)) cs207 0) cs207 = (0 : Int32) := if_pos rfl
    have hj287 : Ag278 cs207 = (rcA as208, hd, sl, (u213 :: ([] : List Nat))) := (hag280 cs207 (Nat.le_refl _)).trans hst262.1.1.2
    have hj288 : Ag278 (cs207 + 1) = (rcA wt209, hd, sl, ([] : List Nat)) := hst279.1.1.2
    refine lv_istore_n (lv' := [(3, .int (nI cs207)), (2, .int wf210), (0, .ref (a 4)), (1, .ref q)]) hx hb dX0_ifStatement_42 rfl hl (by decide) rfl (fun ls hl => ?_)
    refine lv_aload_n hx hb dX0_ifStatement_43 rfl (lv_at hl 2 rfl) ?_
    refine lv_aload_n hx hb dX0_ifStatement_44 rfl (lv_at hl 3 rfl) ?_
    refine p_get (v := .ref q2) (C := RX7) (Tc := TX7) (N := 11) (ci := 13) hx hb hq pin_wsX70 hown hE hP hO (by rw [hf233]; decide) (rep_1 hf233) rfl 7 (by decide) (hq _ pw_169) (fun _ h9 => h9) (congrArg (fun z => some (va_rf z)) hf238) dX0_ifStatement_45 ?_
    refine lv_iconst (v := 1) hx hb dX0_ifStatement_48 (by decide) ?_
    have htl289 : tlE g q2 = rE (g 2 q2) - rS (g 2 q2) := rfl
    have hO : OKP G h0 a (upd (upd (upd (upd (upd (upd (upd (upd (upd (upd (upd (upd (upd (upd (upd (upd (upd (upd (upd (upd F 2 (nI sz)) 5 (nI cs)) 6 (nI rg)) 7 (nI hd)) 8 (nI dp)) 12 (nI vr)) 13 as9) 16 ls9) 5 (nI (cs207 + 1))) 13 wt209) 14 wt209) 15 wf210) 2 (nI sz)) 5 (nI (cs207 + 1))) 6 (nI rg)) 7 (nI hd)) 8 (nI dp)) 12 (nI vr)) 13 wt209) 16 ls9) (updR (updR (updR (updR (updR (updR R 2 (.ref pq)) 3 (.ref mq)) 4 (va_rf lp9)) 2 (.ref pq)) 3 (.ref mq)) 4 (va_rf lp9)) Z (updA (updA (updA (updA B206 16 (upd ((B206 16)) cs207 7)) 17 (upd ((B206 17)) cs207 (-1))) 18 (upd ((B206 18)) cs207 0)) 19 (upd ((B206 19)) cs207 (nI hd))) J K205 w := hO.to rfl
    obtain ⟨_, qr293, hqr294⟩ := hO.2.1 24 _ (sg_24 G h0 a _ _ _ _ _)
    refine pn_V0 (G := G) (As := [.ref q2, .int (nI 1)]) (rest := []) hx hb hml hown hq hE hX pX0_al hP hD hS hA hl.1 ((ist (n - 1) (by omega)) h0 a (upd (upd (upd (upd (upd (upd (upd (upd (upd (upd (upd (upd F 2 (nI sz)) 5 (nI cs)) 6 (nI rg)) 7 (nI hd)) 8 (nI dp)) 12 (nI vr)) 13 as9) 16 ls9) 5 (nI (cs207 + 1))) 13 wt209) 14 wt209) 15 wf210) (updR (updR (updR R 2 (.ref pq)) 3 (.ref mq)) 4 (va_rf lp9)) Z (updA (updA (updA (updA B206 16 (upd ((B206 16)) cs207 7)) 17 (upd ((B206 17)) cs207 (-1))) 18 (upd ((B206 18)) cs207 0)) 19 (upd ((B206 19)) cs207 (nI hd))) J K205 w pq dr ml nd nm cp it s9 q2 mq (cs207 + 1) vr sz 1 hd dp rg ls9 lp9 g rk pb Ag278 Q9 (fun z => pd z ∨ z = cs207) sl m9 lw c0 rt gr wt209 hdL slL xb xc rL (by omega) (BdE.wp hbe242 hwp) (BdE.pt hbe242 hwp hps) (BdE.rko hbe242 hrk) (by omega) (by omega) hng282 hf234 hf239 ⟨hv1.1, (by have z9 := hv1; omega)⟩ hf235 hrv (by omega) (by omega) (by omega) (LpO.be hbe242 hlo) (EkA.be hbe242 ((BtR.up (BtR.up (BtR.up (BtR.up hbr250 (by omega)) (by omega)) (by omega)) (by omega)) 7 (by decide)) ((BtR.up (BtR.up (BtR.up (BtR.up hbr250 (by omega)) (by omega)) (by omega)) (by omega)) 11 (by decide)) hek) (OwC.be hbe242 hmq hdr0 hcO) (NaB.be hbe242 hbf249 hwp hps.2.1 hdr0 ((BtR.up (BtR.up (BtR.up (BtR.up hbr250 (by omega)) (by omega)) (by omega)) (by omega)) 11 (by decide)) hna) hen252 hao254.2.1 hst279.1 (by omega) (by omega) (by omega) (SkA.be hbe242 ((BtR.up (BtR.up (BtR.up (BtR.up hbr250 (by omega)) (by omega)) (by omega)) (by omega)) 11 (by decide)) hsk) hlp281 hrq255 (fun z9 => hrL (hst279.2.2.2.2.2.1 z9)) hlr267 (by omega) hO hl0) (gV pw_300 pw_301 pw_302 pw_63 pw_323) hV_X0_statement qr293 0 hqr294 rfl rfl rfl (Nat.le_of_ble_eq_true rfl) dX0_ifStatement_49 ⟨(by show 0 + ((rE (g 2 q2) - rS (g 2 q2)) + 1) ≤ ((rE (g 2 q) - rS (g 2 q)) + 1); omega), (by show 0 + (6 * (rE (g 2 q2) - rS (g 2 q2)) + 6) ≤ (6 * (rE (g 2 q) - rS (g 2 q)) + 6); omega)⟩ ⟨(by show (5 * (n - 1) + 50) + 1 ≤ (5 * n + 46); omega), (by show 8 + (3 + 11) + (200 * (n - 1) + 1200) ≤ (200 * n + 1120); omega)⟩ (fun v292 u290 H locs hw291 hP hD hS => ?_) (fun ux ce9 q9 H9 locs9 hux hP9 hD9 hS9 hce hcv hcl => pb_out ux (ThQ.up (Thx.same (Thx.same (Thx.same (Thx.same (Thx.same (Thx.same (Thx.same (Thx.same (Thx.b (Thx.b8 (Thx.b (Thx.b (Thx.f (Thx.f (Thx.f (Thx.f (Bth.thx hbb243) (by omega)) (by omega)) (by omega)) (by omega)) (by omega) (by decide)) (by omega) (by decide)) hng282) (by omega) (by decide)) rfl) rfl) rfl) rfl) rfl) rfl) rfl) rfl) (show RhX (updR (updR (updR R 2 (.ref pq)) 3 (.ref mq)) 4 (va_rf lp9)) (updR (updR (updR (updR (updR (updR R 2 (.ref pq)) 3 (.ref mq)) 4 (va_rf lp9)) 2 (.ref pq)) 3 (.ref mq)) 4 (va_rf lp9)) from fun k9 hk9 => by unfold updR; simp only [show ¬ k9 = 1 by omega, show ¬ k9 = 2 by omega, show ¬ k9 = 3 by omega, show ¬ k9 = 4 by omega, if_false]) hux) hnt hlocks hce hcv hcl hP9 hD9 hS9 (by show 0 + ((rE (g 2 q2) - rS (g 2 q2)) + 1) ≤ ((rE (g 2 q) - rS (g 2 q)) + 1); omega) (by show 0 + (6 * (rE (g 2 q2) - rS (g 2 q2)) + 6) ≤ (6 * (rE (g 2 q) - rS (g 2 q)) + 6); omega))
    obtain ⟨w, K295, B296, cs297, as298, wt299, wf300, vr301, hd302, dp303, Ag304, sl305, rg306, gr307, ls308, Q309, pd310, xb311, xc312⟩ := u290
    obtain ⟨hw291, h313, h314, h315, h316, h317, h318, h319, h320, h321, h322, h323, h324, h325, h326, h327, h328, h329, h330, h331, h332, hO⟩ := hw291
    have h313 : SmW (updA (updA (updA (updA B206 16 (upd ((B206 16)) cs207 7)) 17 (upd ((B206 17)) cs207 (-1))) 18 (upd ((B206 18)) cs207 0)) 19 (upd ((B206 19)) cs207 (nI hd))) B296 (cs207 + 1) := h313
    have h314 : BdE K205 K295 := h314
    have h315 : BeF K205 K295 := h315
    have h316 : BeL K205 K295 lp9 := h316
    have h317 : Bth (updA (updA (updA (updA B206 16 (upd ((B206 16)) cs207 7)) 17 (upd ((B206 17)) cs207 (-1))) 18 (upd ((B206 18)) cs207 0)) 19 (upd ((B206 19)) cs207 (nI hd))) B296 := h317
    have h318 : BtR (updA (updA (updA (updA B206 16 (upd ((B206 16)) cs207 7)) 17 (upd ((B206 17)) cs207 (-1))) 18 (upd ((B206 18)) cs207 0)) 19 (upd ((B206 19)) cs207 (nI hd))) B296 := h318
    have h319 : (cs207 + 1) ≤ cs297 ∧ cs297 + 0 ≤ (cs207 + 1) + 2 * tlE g q2 := h319
    have h320 : dp ≤ dp303 ∧ dp303 ≤ 71 := h320
    have h321 : vr ≤ vr301 ∧ vr301 ≤ 30 ∧ hd302 + vr = hd + vr301 := h321
    have h322 : AsO as298 := h322
    have h323 : VrS (updA (updA (updA (updA B206 16 (upd ((B206 16)) cs207 7)) 17 (upd ((B206 17)) cs207 (-1))) 18 (upd ((B206 18)) cs207 0)) 19 (upd ((B206 19)) cs207 (nI hd))) B296 vr := h323
    have h324 : (cs207 + 1) < cs297 ∨ (hd302 = hd ∧ sl305 = sl) := h324
    have h325 : ¬ K205.2.1 0 q2 = 22 → hd302 = hd := h325
    have h326 : gr ≤ gr307 ∧ rg306 ≤ 625 ∧ rg306 ≤ gr307 ∧ (rg306 = 625 ∨ rg306 = gr307) := h326
    have h327 : EnV (B296 26) (B296 27) nd vr301 hd302 c0 sl305 := h327
    have h328 : StW pb.1 pb.2.1 pb.2.2.1 pb.2.2.2 Ag278 Ag304 Q9 Q309 (fun z => pd z ∨ z = cs207) pd310 m9 dp303 lw (cs207 + 1) cs297 wt209 as298 hd hd302 sl sl305 gr gr307 (B296 16) (B296 17) (B296 18) (B296 19) [] := h328
    have h329 : LpS K295 (B296 16) (B296 17) Ag304 pd310 lp9 lw cs297 hd302 sl305 hdL slL xb311 xc312 := h329
    have h330 : PdS (fun z => pd z ∨ z = cs207) pd310 xb xb311 xc xc312 [] (cs207 + 1) cs297 := h330
    have h331 : RgQx B296 Q309 gr307 nd := h331
    have h332 : LpR K295 lp9 rL := h332
    obtain rfl : v292 = none := hw291
    have hf333 : K295.1 pq = 7 := (BdE.T h314 hf226 (by decide))
    have hf334 : K295.2.2.1 18 pq = some (a 1) := (BdE.C h314 (by rw [hf226]; decide) 18).trans hf227
    have hf335 : K295.2.2.1 14 pq = some dr := (BdE.C h314 (by rw [hf226]; decide) 14).trans hf228
    have hf336 : K295.1 dr = 8 := (BdE.T h314 hf229 (by decide))
    have hf337 : K295.2.2.1 15 pq = some ml := (BdE.C h314 (by rw [hf226]; decide) 15).trans hf230
    have hf338 : K295.1 ml = 5 := (BdE.T h314 hf231 (by decide))
    have hf339 : K295.2.1 24 pq = (nI nd) := (BdE.I h314 (by rw [hf226]; decide) (by decide) (by decide)).trans hf232
    have hf340 : K295.1 q = 1 := (BdE.T h314 hf233 (by decide))
    have hf341 : K295.1 mq = 3 := (BdE.T h314 hf234 (by decide))
    have hf342 : K295.2.1 10 mq = (nI rt) := (BdE.I h314 (by rw [hf234]; decide) (by decide) (by decide)).trans hf235
    have hf343 : K295.2.2.1 0 q = some q1 := (BdE.C h314 (by rw [hf233]; decide) 0).trans hf236
    have hf344 : K295.1 q1 = 1 := (BdE.T h314 hf237 (by decide))
    have hf345 : K295.2.2.1 1 q = some q2 := (BdE.C h314 (by rw [hf233]; decide) 1).trans hf238
    have hf346 : K295.1 q2 = 1 := (BdE.T h314 hf239 (by decide))
    have hf347 : K295.2.2.1 2 q = some q3 := (BdE.C h314 (by rw [hf233]; decide) 2).trans hf240
    have hf348 : K295.1 q3 = 1 := (BdE.T h314 hf241 (by decide))
    have hO : OKP G h0 a (upd (upd (upd (upd (upd (upd (upd (upd (upd (upd F 2 (nI sz)) 5 (nI cs297)) 6 (nI rg306)) 7 (nI hd302)) 8 (nI dp303)) 12 (nI vr301)) 13 as298) 14 wt299) 15 wf300) 16 ls308) (updR (updR (updR R 2 (.ref pq)) 3 (.ref mq)) 4 (va_rf lp9)) Z B296 J K295 w := hO.to rfl
    refine W.widen (k := (rE (g 2 q2) - rS (g 2 q2))) (n := (6 * (rE (g 2 q2) - rS (g 2 q2)))) (by show 0 + (rE (g 2 q2) - rS (g 2 q2)) ≤ (rE (g 2 q2) - rS (g 2 q2)); omega) (by show 0 + (6 * (rE (g 2 q2) - rS (g 2 q2))) ≤ (6 * (rE (g 2 q2) - rS (g 2 q2))); omega) ?_
    refine W.eq (g2 := F0 m 52 ls []) rfl ?_
    have hbe349 := BdE.trans hbe242 h314
    have hbb350 : Bth B B296 := Bth.trans (show Thx (upd (upd (upd (upd (upd (upd (upd (upd F 2 (nI sz)) 5 (nI cs)) 6 (nI rg)) 7 (nI hd)) 8 (nI dp)) 12 (nI vr)) 13 as9) 16 ls9) (upd (upd (upd (upd (upd (upd (upd (upd (upd (upd (upd (upd F 2 (nI sz)) 5 (nI cs)) 6 (nI rg)) 7 (nI hd)) 8 (nI dp)) 12 (nI vr)) 13 as9) 16 ls9) 5 (nI (cs207 + 1))) 13 wt209) 14 wt209) 15 wf210) B (updA (updA (updA (updA B206 16 (upd ((B206 16)) cs207 7)) 17 (upd ((B206 17)) cs207 (-1))) 18 (upd ((B206 18)) cs207 0)) 19 (upd ((B206 19)) cs207 (nI hd))) from (Thx.b (Thx.b8 (Thx.b (Thx.b (Thx.f (Thx.f (Thx.f (Thx.f (Bth.thx hbb243) (by omega)) (by omega)) (by omega)) (by omega)) (by omega) (by decide)) (by omega) (by decide)) hng282) (by omega) (by decide))).2 h317
    have hng351 : Nng (B296 18) := h317.2 hng282
    have hsw352 : ∀ x9 : Nat, x9 < cs → (B296 16) x9 = B 16 x9 := fun x9 hx9 => ((h313 x9 (by omega)).1).trans (hsw274 x9 hx9)
    have hsw353 : ∀ x9 : Nat, x9 < cs → (B296 17) x9 = B 17 x9 := fun x9 hx9 => ((h313 x9 (by omega)).2.1).trans (hsw275 x9 hx9)
    have hsw354 : ∀ x9 : Nat, x9 < cs → (B296 18) x9 = B 18 x9 := fun x9 hx9 => ((h313 x9 (by omega)).2.2.1).trans (hsw276 x9 hx9)
    have hsw355 : ∀ x9 : Nat, x9 < cs → (B296 19) x9 = B 19 x9 := fun x9 hx9 => ((h313 x9 (by omega)).2.2.2).trans (hsw277 x9 hx9)
    have hbf356 := BeF.trans hbf249 h315 hbe242
    have hbl358 : BeL K K295 lp9 := BeL.trans hbl251 h316 hbe242
    have hbr357 : BtR B B296 := BtR.trans (BtR.up (BtR.up (BtR.up (BtR.up hbr250 (by omega)) (by omega)) (by omega)) (by omega)) h318
    have hvs359 : VrS B B296 vr := VrS.trans hvs253 h323 (by omega)
    have hst360 : StW pb.1 pb.2.1 pb.2.2.1 pb.2.2.2 Ag Ag304 Q9 Q309 pd pd310 m9 dp303 lw cs cs297 as9 as298 hd hd302 sl sl305 gr gr307 (B296 16) (B296 17) (B296 18) (B296 19) ([] : List Nat) := StW.seq hst279 (by omega) (fun x9 hx9 => ⟨(h313 x9 hx9).1, (h313 x9 hx9).2.1⟩) h328
    have hsn361 := hst360.1.2.2.2.1
    have hpd362 : PdS pd pd310 xb xb311 xc xc312 (cs207 :: ([] : List Nat)) cs cs297 := PdS.call hpd283 h330 (by omega) (by omega)
    have hj363 : (B296 16) cs207 = (nI 7) := ((h313 cs207 (by omega)).1).trans hj284
    have hj364 : (B296 17) cs207 = ((-1) : Int32) := ((h313 cs207 (by omega)).2.1).trans hj285
    have hj365 : (B296 18) cs207 = (0 : Int32) := ((h313 cs207 (by omega)).2.2.1).trans hj286
    have hj366 : Ag304 cs207 = (rcA as208, hd, sl, (u213 :: ([] : List Nat))) := (h328.2.2.1 cs207 (by omega)).trans hj287
    have hj367 : Ag304 (cs207 + 1) = (rcA wt209, hd, sl, ([] : List Nat)) := (h328.2.2.1 (cs207 + 1) (by omega)).trans hj288
    have hnlhd302 : hd302 = hd := h325 (by rw [BdE.I hbe242 (by rw [hsnl.1]; decide) (by decide) (by decide)]; exact hsnl.2)
    obtain rfl : vr = vr301 := by omega
    obtain rfl : hd = hd302 := hnlhd302.symm
    have h313 : SmW (updA (updA (updA (updA B206 16 (upd ((B206 16)) cs207 7)) 17 (upd ((B206 17)) cs207 (-1))) 18 (upd ((B206 18)) cs207 0)) 19 (upd ((B206 19)) cs207 (nI hd))) B296 (cs207 + 1) := h313
    have h314 : BdE K205 K295 := h314
    have h315 : BeF K205 K295 := h315
    have h316 : BeL K205 K295 lp9 := h316
    have h317 : Bth (updA (updA (updA (updA B206 16 (upd ((B206 16)) cs207 7)) 17 (upd ((B206 17)) cs207 (-1))) 18 (upd ((B206 18)) cs207 0)) 19 (upd ((B206 19)) cs207 (nI hd))) B296 := h317
    have h318 : BtR (updA (updA (updA (updA B206 16 (upd ((B206 16)) cs207 7)) 17 (upd ((B206 17)) cs207 (-1))) 18 (upd ((B206 18)) cs207 0)) 19 (upd ((B206 19)) cs207 (nI hd))) B296 := h318
    have h319 : (cs207 + 1) ≤ cs297 ∧ cs297 + 0 ≤ (cs207 + 1) + 2 * tlE g q2 := h319
    have h320 : dp ≤ dp303 ∧ dp303 ≤ 71 := h320
    have h321 : vr ≤ vr ∧ vr ≤ 30 ∧ hd + vr = hd + vr := h321
    have h322 : AsO as298 := h322
    have h323 : VrS (updA (updA (updA (updA B206 16 (upd ((B206 16)) cs207 7)) 17 (upd ((B206 17)) cs207 (-1))) 18 (upd ((B206 18)) cs207 0)) 19 (upd ((B206 19)) cs207 (nI hd))) B296 vr := h323
    have h324 : (cs207 + 1) < cs297 ∨ (hd = hd ∧ sl305 = sl) := h324
    have h325 : ¬ K205.2.1 0 q2 = 22 → hd = hd := h325
    have h326 : gr ≤ gr307 ∧ rg306 ≤ 625 ∧ rg306 ≤ gr307 ∧ (rg306 = 625 ∨ rg306 = gr307) := h326
    have h327 : EnV (B296 26) (B296 27) nd vr hd c0 sl305 := h327
    have h328 : StW pb.1 pb.2.1 pb.2.2.1 pb.2.2.2 Ag278 Ag304 Q9 Q309 (fun z => pd z ∨ z = cs207) pd310 m9 dp303 lw (cs207 + 1) cs297 wt209 as298 hd hd sl sl305 gr gr307 (B296 16) (B296 17) (B296 18) (B296 19) [] := h328
    have h329 : LpS K295 (B296 16) (B296 17) Ag304 pd310 lp9 lw cs297 hd sl305 hdL slL xb311 xc312 := h329
    have h330 : PdS (fun z => pd z ∨ z = cs207) pd310 xb xb311 xc xc312 [] (cs207 + 1) cs297 := h330
    have h331 : RgQx B296 Q309 gr307 nd := h331
    have h332 : LpR K295 lp9 rL := h332
    refine lv_aload_n hx hb dX0_ifStatement_52 rfl (lv_at hl 3 rfl) ?_
    refine p_get (v := .ref q3) (C := RX7) (Tc := TX7) (N := 11) (ci := 13) hx hb hq pin_wsX70 hown hE hP hO (by rw [hf340]; decide) (rep_1 hf340) rfl 8 (by decide) (hq _ pw_196) (fun _ h9 => h9) (congrArg (fun z => some (va_rf z)) hf347) dX0_ifStatement_53 ?_
    refine lv_ifnonnull (tgt := 78) hx hb dX0_ifStatement_56 (by decide) ?_
    refine lv_aload_n hx hb dX0_ifStatement_78 rfl (lv_at hl 2 rfl) ?_
    refine c_get (v := .ref (a 2)) (C := RX0) (Tc := TX0) (N := 13) (ci := 0) hx hb hq pin_wsX00 hown hE hP hO 24 (sg_24 G h0 a _ _ _ _ _) rfl 1 (by decide) (hq _ pw_5) (fun _ h9 => h9) rfl dX0_ifStatement_79 ?_
    refine lv_bipush (v := 6) hx hb dX0_ifStatement_82 (by decide) ?_
    refine lv_iconst (v := (-1)) hx hb dX0_ifStatement_84 (by decide) ?_
    refine lv_iconst (v := 0) hx hb dX0_ifStatement_85 (by decide) ?_
    have habn : ¬ as298 = -1 → ¬ as9 = -1 := hst360.2.2.2.2.2.1
    have hO : OKW G h0 a (upd (upd (upd (upd (upd (upd (upd (upd (upd (upd (upd (upd F 2 (nI sz)) 5 (nI cs297)) 6 (nI rg306)) 7 (nI hd)) 8 (nI dp303)) 12 (nI vr)) 13 as298) 14 wt299) 15 wf300) 16 ls308) 5 (nI cs297)) 7 (nI hd)) (updR (updR (updR R 2 (.ref pq)) 3 (.ref mq)) 4 (va_rf lp9)) Z B296 J K295.1 (fun q99 x99 => x99 = rep G a K295 q99) w := hO.to rfl
    obtain ⟨_, qr371, hqr372⟩ := hO.2.1 13 _ (sg_13 G h0 a _ _ _ _ _)
    refine pc_V0 (G := G) (As := [.int 6, .int (-1), .int 0]) (rest := []) hx hb hml hown hq hE hX pX0_al hP hD hS hA hl.1 (Y_jump l G h0 a (upd (upd (upd (upd (upd (upd (upd (upd (upd (upd F 2 (nI sz)) 5 (nI cs297)) 6 (nI rg306)) 7 (nI hd)) 8 (nI dp303)) 12 (nI vr)) 13 as298) 14 wt299) 15 wf300) 16 ls308) (updR (updR (updR R 2 (.ref pq)) 3 (.ref mq)) 4 (va_rf lp9)) Z B296 J K295.1 (fun q99 x99 => x99 = rep G a K295 q99) w 6 (-1) 0 cs297 hd (by omega) hO) (gV pw_197 pw_198 pw_199 pw_70 pw_132) hV_X1_jump qr371 1 hqr372 rfl rfl rfl (Nat.le_of_ble_eq_true rfl) dX0_ifStatement_86 ⟨(by show (rE (g 2 q2) - rS (g 2 q2)) + 0 ≤ ((rE (g 2 q) - rS (g 2 q)) + 1); omega), (by show (6 * (rE (g 2 q2) - rS (g 2 q2))) + 0 ≤ (6 * (rE (g 2 q) - rS (g 2 q)) + 6); omega)⟩ ⟨(by show 3 + 1 ≤ (5 * n + 46); omega), (by show 8 + (4 + 11) + 83 ≤ (200 * n + 1120); omega)⟩ (fun v370 u368 H locs hw369 hP hD hS => ?_)
    obtain ⟨w, _⟩ := u368
    obtain ⟨hw369, hO⟩ := hw369
    obtain rfl : v370 = some (.int (nI cs297)) := hw369
    have hO : OKP G h0 a (upd (upd (upd (upd (upd (upd (upd (upd (upd (upd F 2 (nI sz)) 5 (nI (cs297 + 1))) 6 (nI rg306)) 7 (nI hd)) 8 (nI dp303)) 12 (nI vr)) 13 as298) 14 wt299) 15 wf300) 16 ls308) (updR (updR (updR R 2 (.ref pq)) 3 (.ref mq)) 4 (va_rf lp9)) Z (updA (updA (updA (updA B296 16 (upd ((B296 16)) cs297 6)) 17 (upd ((B296 17)) cs297 (-1))) 18 (upd ((B296 18)) cs297 0)) 19 (upd ((B296 19)) cs297 (nI hd))) J K295 w := hO.to rfl
    refine W.widen (k := (rE (g 2 q2) - rS (g 2 q2))) (n := (6 * (rE (g 2 q2) - rS (g 2 q2)))) (by show (rE (g 2 q2) - rS (g 2 q2)) + 0 ≤ (rE (g 2 q2) - rS (g 2 q2)); omega) (by show (6 * (rE (g 2 q2) - rS (g 2 q2))) + 0 ≤ (6 * (rE (g 2 q2) - rS (g 2 q2))); omega) ?_
    refine W.eq (g2 := F0 m 89 ls [.int (nI cs297)]) rfl ?_
    have hsw373 : ∀ x9 : Nat, x9 < cs → (upd ((B296 16)) cs297 6) x9 = B 16 x9 := fun x9 hx9 => (if_neg (by omega)).trans (hsw352 x9 hx9)
    have hsw374 : ∀ x9 : Nat, x9 < cs → (upd ((B296 17)) cs297 (-1)) x9 = B 17 x9 := fun x9 hx9 => (if_neg (by omega)).trans (hsw353 x9 hx9)
    have hsw375 : ∀ x9 : Nat, x9 < cs → (upd ((B296 18)) cs297 0) x9 = B 18 x9 := fun x9 hx9 => (if_neg (by omega)).trans (hsw354 x9 hx9)
    have hsw376 : ∀ x9 : Nat, x9 < cs → (upd ((B296 19)) cs297 (nI hd)) x9 = B 19 x9 := fun x9 hx9 => (if_neg (by omega)).trans (hsw355 x9 hx9)
    obtain ⟨Ag377, hst378, hag379⟩ : ∃ A5 : Nat → AS, StW pb.1 pb.2.1 pb.2.2.1 pb.2.2.2 Ag A5 Q9 Q309 pd (fun z => pd310 z ∨ z = cs297) m9 dp303 lw cs (cs297 + 1) as9 (-1) hd hd sl sl305 gr gr307 (upd ((B296 16)) cs297 6) (upd ((B296 17)) cs297 (-1)) (upd ((B296 18)) cs297 0) (upd ((B296 19)) cs297 (nI hd)) ([] : List Nat) ∧ ∀ x9 : Nat, x9 ≤ cs297 → A5 x9 = Ag304 x9 := ⟨(upS Ag304 (cs297 + 1) (rcA (-1), hd, sl305, ([] : List Nat))), StW.jmp (k := 6) hst360 (by show 0 ≤ 248; omega) (by decide) (fun z9 hz9 => ⟨fun h9 => Or.inl h9, fun h9 => h9.resolve_right (by omega)⟩) (Or.inr rfl) (fun z9 => absurd rfl z9), fun x9 hx9 => upS_ne (by omega)⟩
    have hlp380 : LpS K295 (upd ((B296 16)) cs297 6) (upd ((B296 17)) cs297 (-1)) Ag377 (fun z => pd310 z ∨ z = cs297) lp9 lw (cs297 + 1) hd sl305 hdL slL xb311 xc312 := LpS.same h329 (fun _ _ _ _ _ => rfl) (fun z9 hz9 => ⟨if_neg (by omega), if_neg (by omega), hag379 z9 (by omega)⟩) (fun _ h9 => Or.inl h9) (fun z9 h9 => h9.elim (fun h8 => Nat.lt_succ_of_lt (h329.1 z9 h8)) (fun h8 => by omega)) (by omega) ⟨Nat.le_refl _, fun _ _ => rfl⟩
    have hng381 : Nng (upd ((B296 18)) cs297 0) := Nng.set hng351 (k := 0) (by omega)
    have hj382 : (upd ((B296 16)) cs297 6) cs207 = (nI 7) := (if_neg (by omega)).trans hj363
    have hj383 : (upd ((B296 17)) cs297 (-1)) cs207 = ((-1) : Int32) := (if_neg (by omega)).trans hj364
    have hj384 : (upd ((B296 18)) cs297 0) cs207 = (0 : Int32) := (if_neg (by omega)).trans hj365
    have hj385 : Ag377 cs207 = (rcA as208, hd, sl, (u213 :: ([] : List Nat))) := (hag379 cs207 (by omega)).trans hj366
    have hj386 : Ag377 (cs207 + 1) = (rcA wt209, hd, sl, ([] : List Nat)) := (hag379 (cs207 + 1) (by omega)).trans hj367
    have hpd387 : PdS pd (fun z => pd310 z ∨ z = cs297) xb xb311 xc xc312 (cs297 :: (cs207 :: ([] : List Nat))) cs (cs297 + 1) := PdS.jmp hpd362 (LpS.lt h329).1 (LpS.lt h329).2 (by omega)
    have hj388 : (upd ((B296 16)) cs297 6) cs297 = (nI 6) := if_pos rfl
    have hj389 : (upd ((B296 17)) cs297 (-1)) cs297 = ((-1) : Int32) := if_pos rfl
    have hj390 : (upd ((B296 18)) cs297 0) cs297 = (0 : Int32) := if_pos rfl
    have hj391 : Ag377 cs297 = (rcA as298, hd, sl305, ([] : List Nat)) := (hag379 cs297 (Nat.le_refl _)).trans hst360.1.1.2
    have hj392 : Ag377 (cs297 + 1) = (rcA (-1), hd, sl305, ([] : List Nat)) := hst378.1.1.2
    refine lv_istore (lv' := [(4, .int (nI cs297)), (3, .int (nI cs207)), (2, .int wf210), (0, .ref (a 4)), (1, .ref q)]) hx hb dX0_ifStatement_89 hl (by decide) rfl (fun ls hl => ?_)
    refine lv_aload_n hx hb dX0_ifStatement_91 rfl (lv_at hl 3 rfl) ?_
    refine c_get (v := .ref (a 2)) (C := RX0) (Tc := TX0) (N := 13) (ci := 0) hx hb hq pin_wsX00 hown hE hP hO 24 (sg_24 G h0 a _ _ _ _ _) rfl 1 (by decide) (hq _ pw_5) (fun _ h9 => h9) rfl dX0_ifStatement_92 ?_
    refine lv_iload_n hx hb dX0_ifStatement_95 rfl (lv_at hl 1 rfl) ?_
    have hO : OKW G h0 a (upd (upd (upd (upd (upd (upd (upd (upd (upd (upd (upd F 2 (nI sz)) 5 (nI (cs297 + 1))) 6 (nI rg306)) 7 (nI hd)) 8 (nI dp303)) 12 (nI vr)) 13 as298) 14 wt299) 15 wf300) 16 ls308) 5 (nI (cs297 + 1))) (updR (updR (updR R 2 (.ref pq)) 3 (.ref mq)) 4 (va_rf lp9)) Z (updA (updA (updA (updA B296 16 (upd ((B296 16)) cs297 6)) 17 (upd ((B296 17)) cs297 (-1))) 18 (upd ((B296 18)) cs297 0)) 19 (upd ((B296 19)) cs297 (nI hd))) J K295.1 (fun q99 x99 => x99 = rep G a K295 q99) w := hO.to rfl
    obtain ⟨_, qr396, hqr397⟩ := hO.2.1 13 _ (sg_13 G h0 a _ _ _ _ _)
    refine pc_V0 (G := G) (As := [.int (nI cs207)]) (rest := []) hx hb hml hown hq hE hX pX0_al hP hD hS hA hl.1 (Y_land l G h0 a (upd (upd (upd (upd (upd (upd (upd (upd (upd (upd F 2 (nI sz)) 5 (nI (cs297 + 1))) 6 (nI rg306)) 7 (nI hd)) 8 (nI dp303)) 12 (nI vr)) 13 as298) 14 wt299) 15 wf300) 16 ls308) (updR (updR (updR R 2 (.ref pq)) 3 (.ref mq)) 4 (va_rf lp9)) Z (updA (updA (updA (updA B296 16 (upd ((B296 16)) cs297 6)) 17 (upd ((B296 17)) cs297 (-1))) 18 (upd ((B296 18)) cs297 0)) 19 (upd ((B296 19)) cs297 (nI hd))) J K295.1 (fun q99 x99 => x99 = rep G a K295 q99) w (nI cs207) (cs297 + 1) ([cs207]) (by omega) (ChnJ.one hj383 (by omega)) (fun y9 hy9 => by rw [List.mem_singleton.mp hy9]; omega) hO) (gV pw_200 pw_201 pw_202 pw_70 pw_134) hV_X1_land qr396 1 hqr397 rfl rfl rfl (Nat.le_of_ble_eq_true rfl) dX0_ifStatement_96 ⟨(by show (rE (g 2 q2) - rS (g 2 q2)) + 0 ≤ ((rE (g 2 q) - rS (g 2 q)) + 1); omega), (by show (6 * (rE (g 2 q2) - rS (g 2 q2))) + 0 ≤ (6 * (rE (g 2 q) - rS (g 2 q)) + 6); omega)⟩ ⟨(by show 2 + 1 ≤ (5 * n + 46); omega), (by show 8 + (5 + 11) + 60 ≤ (200 * n + 1120); omega)⟩ (fun v395 u393 H locs hw394 hP hD hS => ?_)
    obtain ⟨w, _⟩ := u393
    obtain ⟨hw394, hO⟩ := hw394
    obtain rfl : v395 = none := hw394
    have hO : OKP G h0 a (upd (upd (upd (upd (upd (upd (upd (upd (upd (upd F 2 (nI sz)) 5 (nI (cs297 + 1))) 6 (nI rg306)) 7 (nI hd)) 8 (nI dp303)) 12 (nI vr)) 13 as298) 14 wt299) 15 wf300) 16 ls308) (updR (updR (updR R 2 (.ref pq)) 3 (.ref mq)) 4 (va_rf lp9)) Z (updA (updA (updA (updA B296 16 (upd ((B296 16)) cs297 6)) 17 (aim ((upd ((B296 17)) cs297 (-1))) ([cs207]) (cs297 + 1))) 18 (upd ((B296 18)) cs297 0)) 19 (upd ((B296 19)) cs297 (nI hd))) J K295 w := hO.to rfl
    refine W.widen (k := (rE (g 2 q2) - rS (g 2 q2))) (n := (6 * (rE (g 2 q2) - rS (g 2 q2)))) (by show (rE (g 2 q2) - rS (g 2 q2)) + 0 ≤ (rE (g 2 q2) - rS (g 2 q2)); omega) (by show (6 * (rE (g 2 q2) - rS (g 2 q2))) + 0 ≤ (6 * (rE (g 2 q2) - rS (g 2 q2))); omega) ?_
    refine W.eq (g2 := F0 m 99 ls []) rfl ?_
    have hsw398 : ∀ x9 : Nat, x9 < cs → (aim ((upd ((B296 17)) cs297 (-1))) ([cs207]) (cs297 + 1)) x9 = B 17 x9 := fun x9 hx9 => (aim_no (fun q9 => by have e9 := (in1 (cs := cs) (by omega)) x9 q9; omega)).trans (hsw374 x9 hx9)
    obtain ⟨Ag399, hst400, hag401⟩ : ∃ A5 : Nat → AS, StW pb.1 pb.2.1 pb.2.2.1 pb.2.2.2 Ag A5 Q9 Q309 pd (pdm (fun z => pd310 z ∨ z = cs297) [cs207]) m9 dp303 lw cs (cs297 + 1) as9 wf210 hd hd sl sl gr gr307 (upd ((B296 16)) cs297 6) (aim ((upd ((B296 17)) cs297 (-1))) ([cs207]) (cs297 + 1)) (upd ((B296 18)) cs297 0) (upd ((B296 19)) cs297 (nI hd)) ([] : List Nat) ∧ ∀ x9 : Nat, x9 < (cs297 + 1) → A5 x9 = Ag377 x9 := ⟨(upS Ag377 (cs297 + 1) (rcA wf210, hd, sl, ([] : List Nat))), StW.ifl hst378 ⟨by omega, by omega⟩ (by omega) hj382 hj385 hj386 hbo268.1 (fun z9 => (hbo268.2.2 z9).1) (fun z9 => (hbo268.2.2 z9).2) (fun z9 => absurd rfl z9) (by omega) hawf hwfa (by omega), fun x9 hx9 => upS_ne (by omega)⟩
    have hen402 := EnV.back hen hvs359
    have hlp403 : LpS K295 (upd ((B296 16)) cs297 6) (aim ((upd ((B296 17)) cs297 (-1))) ([cs207]) (cs297 + 1)) Ag399 (pdm (fun z => pd310 z ∨ z = cs297) [cs207]) lp9 lw (cs297 + 1) hd sl hdL slL xb311 xc312 := LpS.same (LpS.to (LpS.land (b := (rcA wf210, hd, sl, ([] : List Nat))) (xs := [cs207]) hlp380 (LpS.dis hpd387 (fun z9 hz9 => by rw [List.mem_singleton.mp hz9]; exact List.mem_cons_of_mem _ (List.mem_cons_self ..)))) hlp) (fun _ _ _ _ _ => rfl) (fun z9 hz9 => ⟨rfl, rfl, (hag401 z9 hz9).trans (upS_ne (by omega)).symm⟩) (fun _ h9 => h9) (fun z9 h9 => hlp380.1 z9 h9.1) (Nat.le_refl _) ⟨Nat.le_refl _, fun _ _ => rfl⟩
    have hpd404 : PdS pd (pdm (fun z => pd310 z ∨ z = cs297) [cs207]) xb xb311 xc xc312 (cs297 :: ([] : List Nat)) cs (cs297 + 1) := PdS.land hpd387 hlp.1 (fun z9 hz9 => by rw [List.mem_singleton.mp hz9]; exact List.mem_cons_of_mem _ (List.mem_cons_self ..)) (fun z9 hz9 => by rcases List.mem_cons.mp hz9 with e9 | e9; exact Or.inr (by rw [e9]; exact List.mem_cons_self ..); exact Or.inl e9) (fun z9 hz9 => ⟨by rw [List.mem_singleton.mp hz9]; exact List.mem_cons_self .., fun q9 => by have e8 := List.mem_singleton.mp hz9; have e9 := List.mem_singleton.mp q9; omega⟩)
    have hj405 : (upd ((B296 16)) cs297 6) cs297 = (nI 6) := (rfl).trans hj388
    have hj406 : (aim ((upd ((B296 17)) cs297 (-1))) ([cs207]) (cs297 + 1)) cs297 = ((-1) : Int32) := (aim_no (fun q9 => by have e9 := (List.mem_singleton.mp q9); omega)).trans hj389
    have hj407 : (upd ((B296 18)) cs297 0) cs297 = (0 : Int32) := (rfl).trans hj390
    have hj408 : Ag399 cs297 = (rcA as298, hd, sl305, ([] : List Nat)) := (hag401 cs297 (by omega)).trans hj391
    refine lv_aload_n hx hb dX0_ifStatement_99 rfl (lv_at hl 3 rfl) ?_
    refine c_get (v := .int as298) (C := RX0) (Tc := TX0) (N := 13) (ci := 0) hx hb hq pin_wsX00 hown hE hP hO 24 (sg_24 G h0 a _ _ _ _ _) rfl 8 (by decide) (hq _ pw_55) (fun _ h9 => h9) rfl dX0_ifStatement_100 ?_
    refine lv_istore (lv' := [(5, .int as298), (4, .int (nI cs297)), (3, .int (nI cs207)), (2, .int wf210), (0, .ref (a 4)), (1, .ref q)]) hx hb dX0_ifStatement_103 hl (by decide) rfl (fun ls hl => ?_)
    refine lv_aload_n hx hb dX0_ifStatement_105 rfl (lv_at hl 4 rfl) ?_
    refine lv_iload_n hx hb dX0_ifStatement_106 rfl (lv_at hl 3 rfl) ?_
    refine c_put (v := .int wf210) (ty := .int) (C := RX0) (Tc := TX0) (N := 13) (ci := 0) hx hb hq pin_wsX00 tyX0 tyX0_ok nmX0 hown hE hP hD hS hO 24 (sg_24 G h0 a _ _ _ _ _) rfl 8 (by decide) (hq _ pw_55) (fun _ h9 => h9) rfl (by decide +kernel) rfl rfl (Nat.le_of_ble_eq_true rfl) (sf_13 G h0 a _ _ _ _ _ wf210) dX0_ifStatement_107 (fun H locs w hP hD hS hO => ?_)
    refine lv_aload_n hx hb dX0_ifStatement_110 rfl (lv_at hl 4 rfl) ?_
    refine lv_aload_n hx hb dX0_ifStatement_111 rfl (lv_at hl 5 rfl) ?_
    refine p_get (v := .ref q3) (C := RX7) (Tc := TX7) (N := 11) (ci := 13) hx hb hq pin_wsX70 hown hE hP hO (by rw [hf340]; decide) (rep_1 hf340) rfl 8 (by decide) (hq _ pw_196) (fun _ h9 => h9) (congrArg (fun z => some (va_rf z)) hf347) dX0_ifStatement_112 ?_
    refine lv_iconst (v := 1) hx hb dX0_ifStatement_115 (by decide) ?_
    have htl409 : tlE g q3 = rE (g 2 q3) - rS (g 2 q3) := rfl
    have hO : OKP G h0 a (upd (upd (upd (upd (upd (upd (upd (upd (upd (upd (upd (upd (upd (upd (upd (upd (upd (upd (upd (upd (upd (upd (upd F 2 (nI sz)) 5 (nI cs)) 6 (nI rg)) 7 (nI hd)) 8 (nI dp)) 12 (nI vr)) 13 as9) 16 ls9) 5 (nI (cs297 + 1))) 6 (nI rg306)) 8 (nI dp303)) 13 wf210) 14 wt299) 15 wf300) 16 ls308) 2 (nI sz)) 5 (nI (cs297 + 1))) 6 (nI rg306)) 7 (nI hd)) 8 (nI dp303)) 12 (nI vr)) 13 wf210) 16 ls308) (updR (updR (updR (updR (updR (updR R 2 (.ref pq)) 3 (.ref mq)) 4 (va_rf lp9)) 2 (.ref pq)) 3 (.ref mq)) 4 (va_rf lp9)) Z (updA (updA (updA (updA B296 16 (upd ((B296 16)) cs297 6)) 17 (aim ((upd ((B296 17)) cs297 (-1))) ([cs207]) (cs297 + 1))) 18 (upd ((B296 18)) cs297 0)) 19 (upd ((B296 19)) cs297 (nI hd))) J K295 w := hO.to rfl
    obtain ⟨_, qr413, hqr414⟩ := hO.2.1 24 _ (sg_24 G h0 a _ _ _ _ _)
    refine pn_V0 (G := G) (As := [.ref q3, .int (nI 1)]) (rest := []) hx hb hml hown hq hE hX pX0_al hP hD hS hA hl.1 ((ist (n - 1) (by omega)) h0 a (upd (upd (upd (upd (upd (upd (upd (upd (upd (upd (upd (upd (upd (upd (upd F 2 (nI sz)) 5 (nI cs)) 6 (nI rg)) 7 (nI hd)) 8 (nI dp)) 12 (nI vr)) 13 as9) 16 ls9) 5 (nI (cs297 + 1))) 6 (nI rg306)) 8 (nI dp303)) 13 wf210) 14 wt299) 15 wf300) 16 ls308) (updR (updR (updR R 2 (.ref pq)) 3 (.ref mq)) 4 (va_rf lp9)) Z (updA (updA (updA (updA B296 16 (upd ((B296 16)) cs297 6)) 17 (aim ((upd ((B296 17)) cs297 (-1))) ([cs207]) (cs297 + 1))) 18 (upd ((B296 18)) cs297 0)) 19 (upd ((B296 19)) cs297 (nI hd))) J K295 w pq dr ml nd nm cp it s9 q3 mq (cs297 + 1) vr sz 1 hd dp303 rg306 ls308 lp9 g rk pb Ag399 Q309 (pdm (fun z => pd310 z ∨ z = cs297) [cs207]) sl m9 lw c0 rt gr307 wf210 hdL slL xb311 xc312 rL (by omega) (BdE.wp hbe349 hwp) (BdE.pt hbe349 hwp hps) (BdE.rko hbe349 hrk) (by omega) (by omega) hng381 hf341 hf348 ⟨hv2.1, (by have z9 := hv2; omega)⟩ hf342 hrv (by omega) (by omega) (by omega) (LpO.be hbe349 hlo) (EkA.be hbe349 ((BtR.up (BtR.up (BtR.up (BtR.up hbr357 (by omega)) (by omega)) (by omega)) (by omega)) 7 (by decide)) ((BtR.up (BtR.up (BtR.up (BtR.up hbr357 (by omega)) (by omega)) (by omega)) (by omega)) 11 (by decide)) hek) (OwC.be hbe349 hmq hdr0 hcO) (NaB.be hbe349 hbf356 hwp hps.2.1 hdr0 ((BtR.up (BtR.up (BtR.up (BtR.up hbr357 (by omega)) (by omega)) (by omega)) (by omega)) 11 (by decide)) hna) hen402 hao254.2.2 hst400.1 (by omega) (by omega) (by omega) (SkA.be hbe349 ((BtR.up (BtR.up (BtR.up (BtR.up hbr357 (by omega)) (by omega)) (by omega)) (by omega)) 11 (by decide)) hsk) hlp403 h331 (fun z9 => hrL (hst400.2.2.2.2.2.1 z9)) h332 (by omega) hO hl0) (gV pw_300 pw_301 pw_302 pw_63 pw_323) hV_X0_statement qr413 0 hqr414 rfl rfl rfl (Nat.le_of_ble_eq_true rfl) dX0_ifStatement_116 ⟨(by show (rE (g 2 q2) - rS (g 2 q2)) + ((rE (g 2 q3) - rS (g 2 q3)) + 1) ≤ ((rE (g 2 q) - rS (g 2 q)) + 1); omega), (by show (6 * (rE (g 2 q2) - rS (g 2 q2))) + (6 * (rE (g 2 q3) - rS (g 2 q3)) + 6) ≤ (6 * (rE (g 2 q) - rS (g 2 q)) + 6); omega)⟩ ⟨(by show (5 * (n - 1) + 50) + 1 ≤ (5 * n + 46); omega), (by show 8 + (3 + 11) + (200 * (n - 1) + 1200) ≤ (200 * n + 1120); omega)⟩ (fun v412 u410 H locs hw411 hP hD hS => ?_) (fun ux ce9 q9 H9 locs9 hux hP9 hD9 hS9 hce hcv hcl => pb_out ux (ThQ.up (Thx.same (Thx.same (Thx.same (Thx.same (Thx.same (Thx.same (Thx.same (Thx.same (Thx.b (Thx.b8 (Thx.b (Thx.b (Thx.f (Thx.f (Thx.f (Thx.f (Thx.f (Thx.f (Thx.f (Bth.thx hbb350) (by omega)) (by omega)) (by omega)) (by omega)) (by omega)) (by omega)) (by omega)) (by omega) (by decide)) (by omega) (by decide)) hng381) (by omega) (by decide)) rfl) rfl) rfl) rfl) rfl) rfl) rfl) rfl) (show RhX (updR (updR (updR R 2 (.ref pq)) 3 (.ref mq)) 4 (va_rf lp9)) (updR (updR (updR (updR (updR (updR R 2 (.ref pq)) 3 (.ref mq)) 4 (va_rf lp9)) 2 (.ref pq)) 3 (.ref mq)) 4 (va_rf lp9)) from fun k9 hk9 => by unfold updR; simp only [show ¬ k9 = 1 by omega, show ¬ k9 = 2 by omega, show ¬ k9 = 3 by omega, show ¬ k9 = 4 by omega, if_false]) hux) hnt hlocks hce hcv hcl hP9 hD9 hS9 (by show (rE (g 2 q2) - rS (g 2 q2)) + ((rE (g 2 q3) - rS (g 2 q3)) + 1) ≤ ((rE (g 2 q) - rS (g 2 q)) + 1); omega) (by show (6 * (rE (g 2 q2) - rS (g 2 q2))) + (6 * (rE (g 2 q3) - rS (g 2 q3)) + 6) ≤ (6 * (rE (g 2 q) - rS (g 2 q)) + 6); omega))
    obtain ⟨w, K415, B416, cs417, as418, wt419, wf420, vr421, hd422, dp423, Ag424, sl425, rg426, gr427, ls428, Q429, pd430, xb431, xc432⟩ := u410
    obtain ⟨hw411, h433, h434, h435, h436, h437, h438, h439, h440, h441, h442, h443, h444, h445, h446, h447, h448, h449, h450, h451, h452, hO⟩ := hw411
    have h433 : SmW (updA (updA (updA (updA B296 16 (upd ((B296 16)) cs297 6)) 17 (aim ((upd ((B296 17)) cs297 (-1))) ([cs207]) (cs297 + 1))) 18 (upd ((B296 18)) cs297 0)) 19 (upd ((B296 19)) cs297 (nI hd))) B416 (cs297 + 1) := h433
    have h434 : BdE K295 K415 := h434
    have h435 : BeF K295 K415 := h435
    have h436 : BeL K295 K415 lp9 := h436
    have h437 : Bth (updA (updA (updA (updA B296 16 (upd ((B296 16)) cs297 6)) 17 (aim ((upd ((B296 17)) cs297 (-1))) ([cs207]) (cs297 + 1))) 18 (upd ((B296 18)) cs297 0)) 19 (upd ((B296 19)) cs297 (nI hd))) B416 := h437
    have h438 : BtR (updA (updA (updA (updA B296 16 (upd ((B296 16)) cs297 6)) 17 (aim ((upd ((B296 17)) cs297 (-1))) ([cs207]) (cs297 + 1))) 18 (upd ((B296 18)) cs297 0)) 19 (upd ((B296 19)) cs297 (nI hd))) B416 := h438
    have h439 : (cs297 + 1) ≤ cs417 ∧ cs417 + 0 ≤ (cs297 + 1) + 2 * tlE g q3 := h439
    have h440 : dp303 ≤ dp423 ∧ dp423 ≤ 71 := h440
    have h441 : vr ≤ vr421 ∧ vr421 ≤ 30 ∧ hd422 + vr = hd + vr421 := h441
    have h442 : AsO as418 := h442
    have h443 : VrS (updA (updA (updA (updA B296 16 (upd ((B296 16)) cs297 6)) 17 (aim ((upd ((B296 17)) cs297 (-1))) ([cs207]) (cs297 + 1))) 18 (upd ((B296 18)) cs297 0)) 19 (upd ((B296 19)) cs297 (nI hd))) B416 vr := h443
    have h444 : (cs297 + 1) < cs417 ∨ (hd422 = hd ∧ sl425 = sl) := h444
    have h445 : ¬ K295.2.1 0 q3 = 22 → hd422 = hd := h445
    have h446 : gr307 ≤ gr427 ∧ rg426 ≤ 625 ∧ rg426 ≤ gr427 ∧ (rg426 = 625 ∨ rg426 = gr427) := h446
    have h447 : EnV (B416 26) (B416 27) nd vr421 hd422 c0 sl425 := h447
    have h448 : StW pb.1 pb.2.1 pb.2.2.1 pb.2.2.2 Ag399 Ag424 Q309 Q429 (pdm (fun z => pd310 z ∨ z = cs297) [cs207]) pd430 m9 dp423 lw (cs297 + 1) cs417 wf210 as418 hd hd422 sl sl425 gr307 gr427 (B416 16) (B416 17) (B416 18) (B416 19) [] := h448
    have h449 : LpS K415 (B416 16) (B416 17) Ag424 pd430 lp9 lw cs417 hd422 sl425 hdL slL xb431 xc432 := h449
    have h450 : PdS (pdm (fun z => pd310 z ∨ z = cs297) [cs207]) pd430 xb311 xb431 xc312 xc432 [] (cs297 + 1) cs417 := h450
    have h451 : RgQx B416 Q429 gr427 nd := h451
    have h452 : LpR K415 lp9 rL := h452
    obtain rfl : v412 = none := hw411
    have hf453 : K415.1 pq = 7 := (BdE.T h434 hf333 (by decide))
    have hf454 : K415.2.2.1 18 pq = some (a 1) := (BdE.C h434 (by rw [hf333]; decide) 18).trans hf334
    have hf455 : K415.2.2.1 14 pq = some dr := (BdE.C h434 (by rw [hf333]; decide) 14).trans hf335
    have hf456 : K415.1 dr = 8 := (BdE.T h434 hf336 (by decide))
    have hf457 : K415.2.2.1 15 pq = some ml := (BdE.C h434 (by rw [hf333]; decide) 15).trans hf337
    have hf458 : K415.1 ml = 5 := (BdE.T h434 hf338 (by decide))
    have hf459 : K415.2.1 24 pq = (nI nd) := (BdE.I h434 (by rw [hf333]; decide) (by decide) (by decide)).trans hf339
    have hf460 : K415.1 q = 1 := (BdE.T h434 hf340 (by decide))
    have hf461 : K415.1 mq = 3 := (BdE.T h434 hf341 (by decide))
    have hf462 : K415.2.1 10 mq = (nI rt) := (BdE.I h434 (by rw [hf341]; decide) (by decide) (by decide)).trans hf342
    have hf463 : K415.2.2.1 0 q = some q1 := (BdE.C h434 (by rw [hf340]; decide) 0).trans hf343
    have hf464 : K415.1 q1 = 1 := (BdE.T h434 hf344 (by decide))
    have hf465 : K415.2.2.1 1 q = some q2 := (BdE.C h434 (by rw [hf340]; decide) 1).trans hf345
    have hf466 : K415.1 q2 = 1 := (BdE.T h434 hf346 (by decide))
    have hf467 : K415.2.2.1 2 q = some q3 := (BdE.C h434 (by rw [hf340]; decide) 2).trans hf347
    have hf468 : K415.1 q3 = 1 := (BdE.T h434 hf348 (by decide))
    have hO : OKP G h0 a (upd (upd (upd (upd (upd (upd (upd (upd (upd (upd F 2 (nI sz)) 5 (nI cs417)) 6 (nI rg426)) 7 (nI hd422)) 8 (nI dp423)) 12 (nI vr421)) 13 as418) 14 wt419) 15 wf420) 16 ls428) (updR (updR (updR R 2 (.ref pq)) 3 (.ref mq)) 4 (va_rf lp9)) Z B416 J K415 w := hO.to rfl
    refine W.widen (k := ((rE (g 2 q2) - rS (g 2 q2)) + (rE (g 2 q3) - rS (g 2 q3)))) (n := ((6 * (rE (g 2 q2) - rS (g 2 q2))) + (6 * (rE (g 2 q3) - rS (g 2 q3))))) (by show (rE (g 2 q2) - rS (g 2 q2)) + (rE (g 2 q3) - rS (g 2 q3)) ≤ ((rE (g 2 q2) - rS (g 2 q2)) + (rE (g 2 q3) - rS (g 2 q3))); omega) (by show (6 * (rE (g 2 q2) - rS (g 2 q2))) + (6 * (rE (g 2 q3) - rS (g 2 q3))) ≤ ((6 * (rE (g 2 q2) - rS (g 2 q2))) + (6 * (rE (g 2 q3) - rS (g 2 q3)))); omega) ?_
    refine W.eq (g2 := F0 m 119 ls []) rfl ?_
    have hbe469 := BdE.trans hbe349 h434
    have hbb470 : Bth B B416 := Bth.trans (show Thx (upd (upd (upd (upd (upd (upd (upd (upd F 2 (nI sz)) 5 (nI cs)) 6 (nI rg)) 7 (nI hd)) 8 (nI dp)) 12 (nI vr)) 13 as9) 16 ls9) (upd (upd (upd (upd (upd (upd (upd (upd (upd (upd (upd (upd (upd (upd (upd F 2 (nI sz)) 5 (nI cs)) 6 (nI rg)) 7 (nI hd)) 8 (nI dp)) 12 (nI vr)) 13 as9) 16 ls9) 5 (nI (cs297 + 1))) 6 (nI rg306)) 8 (nI dp303)) 13 wf210) 14 wt299) 15 wf300) 16 ls308) B (updA (updA (updA (updA B296 16 (upd ((B296 16)) cs297 6)) 17 (aim ((upd ((B296 17)) cs297 (-1))) ([cs207]) (cs297 + 1))) 18 (upd ((B296 18)) cs297 0)) 19 (upd ((B296 19)) cs297 (nI hd))) from (Thx.b (Thx.b8 (Thx.b (Thx.b (Thx.f (Thx.f (Thx.f (Thx.f (Thx.f (Thx.f (Thx.f (Bth.thx hbb350) (by omega)) (by omega)) (by omega)) (by omega)) (by omega)) (by omega)) (by omega)) (by omega) (by decide)) (by omega) (by decide)) hng381) (by omega) (by decide))).2 h437
    have hng471 : Nng (B416 18) := h437.2 hng381
    have hsw472 : ∀ x9 : Nat, x9 < cs → (B416 16) x9 = B 16 x9 := fun x9 hx9 => ((h433 x9 (by omega)).1).trans (hsw373 x9 hx9)
    have hsw473 : ∀ x9 : Nat, x9 < cs → (B416 17) x9 = B 17 x9 := fun x9 hx9 => ((h433 x9 (by omega)).2.1).trans (hsw398 x9 hx9)
    have hsw474 : ∀ x9 : Nat, x9 < cs → (B416 18) x9 = B 18 x9 := fun x9 hx9 => ((h433 x9 (by omega)).2.2.1).trans (hsw375 x9 hx9)
    have hsw475 : ∀ x9 : Nat, x9 < cs → (B416 19) x9 = B 19 x9 := fun x9 hx9 => ((h433 x9 (by omega)).2.2.2).trans (hsw376 x9 hx9)
    have hbf476 := BeF.trans hbf356 h435 hbe349
    have hbl478 : BeL K K415 lp9 := BeL.trans hbl358 h436 hbe349
    have hbr477 : BtR B B416 := BtR.trans (BtR.up (BtR.up (BtR.up (BtR.up hbr357 (by omega)) (by omega)) (by omega)) (by omega)) h438
    have hvs479 : VrS B B416 vr := VrS.trans hvs359 h443 (by omega)
    have hst480 : StW pb.1 pb.2.1 pb.2.2.1 pb.2.2.2 Ag Ag424 Q9 Q429 pd pd430 m9 dp423 lw cs cs417 as9 as418 hd hd422 sl sl425 gr gr427 (B416 16) (B416 17) (B416 18) (B416 19) ([] : List Nat) := StW.seq hst400 (by omega) (fun x9 hx9 => ⟨(h433 x9 hx9).1, (h433 x9 hx9).2.1⟩) h448
    have hsn481 := hst480.1.2.2.2.1
    have hpd482 : PdS pd pd430 xb xb431 xc xc432 (cs297 :: ([] : List Nat)) cs cs417 := PdS.call hpd404 h450 (by omega) (by omega)
    have hj483 : (B416 16) cs297 = (nI 6) := ((h433 cs297 (by omega)).1).trans hj405
    have hj484 : (B416 17) cs297 = ((-1) : Int32) := ((h433 cs297 (by omega)).2.1).trans hj406
    have hj485 : (B416 18) cs297 = (0 : Int32) := ((h433 cs297 (by omega)).2.2.1).trans hj407
    have hj486 : Ag424 cs297 = (rcA as298, hd, sl305, ([] : List Nat)) := (h448.2.2.1 cs297 (by omega)).trans hj408
    have hnlhd422 : hd422 = hd := h445 (by rw [BdE.I hbe349 (by rw [hscT]; decide) (by decide) (by decide)]; exact hscl)
    obtain rfl : vr = vr421 := by omega
    obtain rfl : hd = hd422 := hnlhd422.symm
    have h433 : SmW (updA (updA (updA (updA B296 16 (upd ((B296 16)) cs297 6)) 17 (aim ((upd ((B296 17)) cs297 (-1))) ([cs207]) (cs297 + 1))) 18 (upd ((B296 18)) cs297 0)) 19 (upd ((B296 19)) cs297 (nI hd))) B416 (cs297 + 1) := h433
    have h434 : BdE K295 K415 := h434
    have h435 : BeF K295 K415 := h435
    have h436 : BeL K295 K415 lp9 := h436
    have h437 : Bth (updA (updA (updA (updA B296 16 (upd ((B296 16)) cs297 6)) 17 (aim ((upd ((B296 17)) cs297 (-1))) ([cs207]) (cs297 + 1))) 18 (upd ((B296 18)) cs297 0)) 19 (upd ((B296 19)) cs297 (nI hd))) B416 := h437
    have h438 : BtR (updA (updA (updA (updA B296 16 (upd ((B296 16)) cs297 6)) 17 (aim ((upd ((B296 17)) cs297 (-1))) ([cs207]) (cs297 + 1))) 18 (upd ((B296 18)) cs297 0)) 19 (upd ((B296 19)) cs297 (nI hd))) B416 := h438
    have h439 : (cs297 + 1) ≤ cs417 ∧ cs417 + 0 ≤ (cs297 + 1) + 2 * tlE g q3 := h439
    have h440 : dp303 ≤ dp423 ∧ dp423 ≤ 71 := h440
    have h441 : vr ≤ vr ∧ vr ≤ 30 ∧ hd + vr = hd + vr := h441
    have h442 : AsO as418 := h442
    have h443 : VrS (updA (updA (updA (updA B296 16 (upd ((B296 16)) cs297 6)) 17 (aim ((upd ((B296 17)) cs297 (-1))) ([cs207]) (cs297 + 1))) 18 (upd ((B296 18)) cs297 0)) 19 (upd ((B296 19)) cs297 (nI hd))) B416 vr := h443
    have h444 : (cs297 + 1) < cs417 ∨ (hd = hd ∧ sl425 = sl) := h444
    have h445 : ¬ K295.2.1 0 q3 = 22 → hd = hd := h445
    have h446 : gr307 ≤ gr427 ∧ rg426 ≤ 625 ∧ rg426 ≤ gr427 ∧ (rg426 = 625 ∨ rg426 = gr427) := h446
    have h447 : EnV (B416 26) (B416 27) nd vr hd c0 sl425 := h447
    have h448 : StW pb.1 pb.2.1 pb.2.2.1 pb.2.2.2 Ag399 Ag424 Q309 Q429 (pdm (fun z => pd310 z ∨ z = cs297) [cs207]) pd430 m9 dp423 lw (cs297 + 1) cs417 wf210 as418 hd hd sl sl425 gr307 gr427 (B416 16) (B416 17) (B416 18) (B416 19) [] := h448
    have h449 : LpS K415 (B416 16) (B416 17) Ag424 pd430 lp9 lw cs417 hd sl425 hdL slL xb431 xc432 := h449
    have h450 : PdS (pdm (fun z => pd310 z ∨ z = cs297) [cs207]) pd430 xb311 xb431 xc312 xc432 [] (cs297 + 1) cs417 := h450
    have h451 : RgQx B416 Q429 gr427 nd := h451
    have h452 : LpR K415 lp9 rL := h452
    refine lv_aload_n hx hb dX0_ifStatement_119 rfl (lv_at hl 4 rfl) ?_
    refine c_get (v := .ref (a 2)) (C := RX0) (Tc := TX0) (N := 13) (ci := 0) hx hb hq pin_wsX00 hown hE hP hO 24 (sg_24 G h0 a _ _ _ _ _) rfl 1 (by decide) (hq _ pw_5) (fun _ h9 => h9) rfl dX0_ifStatement_120 ?_
    refine lv_iload hx hb dX0_ifStatement_123 (lv_at hl 1 rfl) ?_
    have hao487 := AsO.and h442 h322
    have hO : OKW G h0 a (upd (upd (upd (upd (upd (upd (upd (upd (upd (upd (upd F 2 (nI sz)) 5 (nI cs417)) 6 (nI rg426)) 7 (nI hd)) 8 (nI dp423)) 12 (nI vr)) 13 as418) 14 wt419) 15 wf420) 16 ls428) 5 (nI cs417)) (updR (updR (updR R 2 (.ref pq)) 3 (.ref mq)) 4 (va_rf lp9)) Z B416 J K415.1 (fun q99 x99 => x99 = rep G a K415 q99) w := hO.to rfl
    obtain ⟨_, qr491, hqr492⟩ := hO.2.1 13 _ (sg_13 G h0 a _ _ _ _ _)
    refine pc_V0 (G := G) (As := [.int (nI cs297)]) (rest := []) hx hb hml hown hq hE hX pX0_al hP hD hS hA hl.1 (Y_land l G h0 a (upd (upd (upd (upd (upd (upd (upd (upd (upd (upd F 2 (nI sz)) 5 (nI cs417)) 6 (nI rg426)) 7 (nI hd)) 8 (nI dp423)) 12 (nI vr)) 13 as418) 14 wt419) 15 wf420) 16 ls428) (updR (updR (updR R 2 (.ref pq)) 3 (.ref mq)) 4 (va_rf lp9)) Z B416 J K415.1 (fun q99 x99 => x99 = rep G a K415 q99) w (nI cs297) cs417 ([cs297]) (by omega) (ChnJ.one hj484 (by omega)) (fun y9 hy9 => by rw [List.mem_singleton.mp hy9]; omega) hO) (gV pw_200 pw_201 pw_202 pw_70 pw_134) hV_X1_land qr491 1 hqr492 rfl rfl rfl (Nat.le_of_ble_eq_true rfl) dX0_ifStatement_125 ⟨(by show ((rE (g 2 q2) - rS (g 2 q2)) + (rE (g 2 q3) - rS (g 2 q3))) + 0 ≤ ((rE (g 2 q) - rS (g 2 q)) + 1); omega), (by show ((6 * (rE (g 2 q2) - rS (g 2 q2))) + (6 * (rE (g 2 q3) - rS (g 2 q3)))) + 0 ≤ (6 * (rE (g 2 q) - rS (g 2 q)) + 6); omega)⟩ ⟨(by show 2 + 1 ≤ (5 * n + 46); omega), (by show 8 + (5 + 11) + 60 ≤ (200 * n + 1120); omega)⟩ (fun v490 u488 H locs hw489 hP hD hS => ?_)
    obtain ⟨w, _⟩ := u488
    obtain ⟨hw489, hO⟩ := hw489
    obtain rfl : v490 = none := hw489
    have hO : OKP G h0 a (upd (upd (upd (upd (upd (upd (upd (upd (upd (upd F 2 (nI sz)) 5 (nI cs417)) 6 (nI rg426)) 7 (nI hd)) 8 (nI dp423)) 12 (nI vr)) 13 as418) 14 wt419) 15 wf420) 16 ls428) (updR (updR (updR R 2 (.ref pq)) 3 (.ref mq)) 4 (va_rf lp9)) Z (updA B416 17 (aim ((B416 17)) ([cs297]) cs417)) J K415 w := hO.to rfl
    refine W.widen (k := ((rE (g 2 q2) - rS (g 2 q2)) + (rE (g 2 q3) - rS (g 2 q3)))) (n := ((6 * (rE (g 2 q2) - rS (g 2 q2))) + (6 * (rE (g 2 q3) - rS (g 2 q3))))) (by show ((rE (g 2 q2) - rS (g 2 q2)) + (rE (g 2 q3) - rS (g 2 q3))) + 0 ≤ ((rE (g 2 q2) - rS (g 2 q2)) + (rE (g 2 q3) - rS (g 2 q3))); omega) (by show ((6 * (rE (g 2 q2) - rS (g 2 q2))) + (6 * (rE (g 2 q3) - rS (g 2 q3)))) + 0 ≤ ((6 * (rE (g 2 q2) - rS (g 2 q2))) + (6 * (rE (g 2 q3) - rS (g 2 q3)))); omega) ?_
    refine W.eq (g2 := F0 m 128 ls []) rfl ?_
    have hsw493 : ∀ x9 : Nat, x9 < cs → (aim ((B416 17)) ([cs297]) cs417) x9 = B 17 x9 := fun x9 hx9 => (aim_no (fun q9 => by have e9 := (in1 (cs := cs) (by omega)) x9 q9; omega)).trans (hsw473 x9 hx9)
    obtain ⟨Ag494, hst495, hag496⟩ : ∃ A5 : Nat → AS, StW pb.1 pb.2.1 pb.2.2.1 pb.2.2.2 Ag A5 Q9 Q429 pd (pdm pd430 [cs297]) m9 dp423 lw cs cs417 as9 (as418 &&& as298) hd hd sl sl gr gr427 (B416 16) (aim ((B416 17)) ([cs297]) cs417) (B416 18) (B416 19) ([] : List Nat) ∧ ∀ x9 : Nat, x9 < cs417 → A5 x9 = Ag424 x9 := ⟨(upS Ag424 cs417 (rcA (as418 &&& as298), hd, sl, ([] : List Nat))), StW.lnd (bs := as298) hst480 (fun z9 hz9 => by rw [List.mem_singleton.mp hz9]; exact (hpd482.2.2.2.2.2.2 cs297 (List.mem_cons_self ..)).2.2.1) (LpJ.cons (cs := cs417) LpJ.nil ⟨by omega, by omega, Or.inl hj483, fun z9 => by rw [hj486] at z9 ⊢; exact ⟨rcA_of z9, Nat.le_refl _, fun s9 hs9 => hst360.2.2.2.2.2.2.1.2 s9 hs9, rfl⟩⟩ (fun _ _ => ⟨rfl, rfl⟩) (Nat.le_refl _) (fun z9 => z9)) (fun z9 => and_n2 z9) (fun z9 => and_n1 z9) (in1 (by omega)) ⟨by omega, by omega⟩ (fun z9 e9 => z9 (and_m1.mpr ⟨Classical.byContradiction fun y9 => hst480.2.2.2.2.2.1 y9 e9, Classical.byContradiction fun y9 => habn y9 e9⟩)) hwfa (by omega), fun x9 hx9 => upS_ne (by omega)⟩
    have hen497 := EnV.back hen hvs479
    have hlp498 : LpS K415 (B416 16) (aim ((B416 17)) ([cs297]) cs417) Ag494 (pdm pd430 [cs297]) lp9 lw cs417 hd sl hdL slL xb431 xc432 := LpS.same (LpS.to (LpS.land (b := (rcA (as418 &&& as298), hd, sl, ([] : List Nat))) (xs := [cs297]) h449 (LpS.dis hpd482 (fun z9 hz9 => by rw [List.mem_singleton.mp hz9]; exact List.mem_cons_self ..))) hlp) (fun _ _ _ _ _ => rfl) (fun z9 hz9 => ⟨rfl, rfl, (hag496 z9 hz9).trans (upS_ne (by omega)).symm⟩) (fun _ h9 => h9) (fun z9 h9 => h449.1 z9 h9.1) (Nat.le_refl _) ⟨Nat.le_refl _, fun _ _ => rfl⟩
    have hpd499 : PdS pd (pdm pd430 [cs297]) xb xb431 xc xc432 ([] : List Nat) cs cs417 := PdS.all hpd482 hlp.1
    refine lv_aload_n hx hb dX0_ifStatement_128 rfl (lv_at hl 4 rfl) ?_
    refine lv_dup hx hb dX0_ifStatement_129 rfl ?_
    refine c_get (v := .int as418) (C := RX0) (Tc := TX0) (N := 13) (ci := 0) hx hb hq pin_wsX00 hown hE hP hO 24 (sg_24 G h0 a _ _ _ _ _) rfl 8 (by decide) (hq _ pw_55) (fun _ h9 => h9) rfl dX0_ifStatement_130 ?_
    refine lv_iload hx hb dX0_ifStatement_133 (lv_at hl 0 rfl) ?_
    refine lv_iand hx hb dX0_ifStatement_135 ?_
    refine lv_topi (fun x500 e501 => ?_)
    obtain rfl : x500 = (as418 &&& as298) := e501
    refine c_put (v := .int (as418 &&& as298)) (ty := .int) (C := RX0) (Tc := TX0) (N := 13) (ci := 0) hx hb hq pin_wsX00 tyX0 tyX0_ok nmX0 hown hE hP hD hS hO 24 (sg_24 G h0 a _ _ _ _ _) rfl 8 (by decide) (hq _ pw_55) (fun _ h9 => h9) rfl (by decide +kernel) rfl rfl (Nat.le_of_ble_eq_true rfl) (sf_13 G h0 a _ _ _ _ _ (as418 &&& as298)) dX0_ifStatement_136 (fun H locs w hP hD hS hO => ?_)
    refine W_size (fun hz1 hz2 => ?_)
    refine vx_ret ?_
    have hz502 : SmW B (updA B416 17 (aim ((B416 17)) ([cs297]) cs417)) cs := (fun x9 hx9 => ⟨hsw472 x9 hx9, hsw493 x9 hx9, hsw474 x9 hx9, hsw475 x9 hx9⟩)
    have hz503 : BdE K K415 := hbe469
    have hz504 : BeF K K415 := hbf476
    have hz505 : BeL K K415 lp9 := hbl478
    have hz506 : Bth B (updA B416 17 (aim ((B416 17)) ([cs297]) cs417)) := (show Thx (upd (upd (upd (upd (upd (upd (upd (upd F 2 (nI sz)) 5 (nI cs)) 6 (nI rg)) 7 (nI hd)) 8 (nI dp)) 12 (nI vr)) 13 as9) 16 ls9) (upd (upd (upd (upd (upd (upd (upd (upd (upd (upd (upd (upd (upd (upd (upd F 2 (nI sz)) 5 (nI cs)) 6 (nI rg)) 7 (nI hd)) 8 (nI dp)) 12 (nI vr)) 13 as9) 16 ls9) 5 (nI cs417)) 6 (nI rg426)) 8 (nI dp423)) 13 (as418 &&& as298)) 14 wt419) 15 wf420) 16 ls428) B (updA B416 17 (aim ((B416 17)) ([cs297]) cs417)) from (Thx.b (Thx.f (Thx.f (Thx.f (Thx.f (Thx.f (Thx.f (Thx.f (Bth.thx hbb470) (by omega)) (by omega)) (by omega)) (by omega)) (by omega)) (by omega)) (by omega)) (by omega) (by decide))).2
    have hz507 : BtR B (updA B416 17 (aim ((B416 17)) ([cs297]) cs417)) := (BtR.up hbr477 (by omega))
    have hz508 : cs ≤ cs417 ∧ cs417 + 1 ≤ cs + 2 * tlE g q := (by omega)
    have hz509 : dp ≤ dp423 ∧ dp423 ≤ 71 := (by omega)
    have hz510 : AsO (as418 &&& as298) := hao487
    have hz511 : VrS B (updA B416 17 (aim ((B416 17)) ([cs297]) cs417)) vr := hvs479
    have hz512 : gr ≤ gr427 ∧ rg426 ≤ 625 ∧ rg426 ≤ gr427 ∧ (rg426 = 625 ∨ rg426 = gr427) := (by omega)
    have hz513 : EnV ((updA B416 17 (aim ((B416 17)) ([cs297]) cs417)) 26) ((updA B416 17 (aim ((B416 17)) ([cs297]) cs417)) 27) nd vr hd c0 sl := hen497
    have hz514 : StW pb.1 pb.2.1 pb.2.2.1 pb.2.2.2 Ag Ag494 Q9 Q429 pd (pdm pd430 [cs297]) m9 dp423 lw cs cs417 as9 (as418 &&& as298) hd hd sl sl gr gr427 ((updA B416 17 (aim ((B416 17)) ([cs297]) cs417)) 16) ((updA B416 17 (aim ((B416 17)) ([cs297]) cs417)) 17) ((updA B416 17 (aim ((B416 17)) ([cs297]) cs417)) 18) ((updA B416 17 (aim ((B416 17)) ([cs297]) cs417)) 19) [] := hst495
    have hz515 : LpS K415 ((updA B416 17 (aim ((B416 17)) ([cs297]) cs417)) 16) ((updA B416 17 (aim ((B416 17)) ([cs297]) cs417)) 17) Ag494 (pdm pd430 [cs297]) lp9 lw cs417 hd sl hdL slL xb431 xc432 := hlp498
    have hz516 : PdS pd (pdm pd430 [cs297]) xb xb431 xc xc432 [] cs cs417 := hpd499
    have hz517 : RgQx (updA B416 17 (aim ((B416 17)) ([cs297]) cs417)) Q429 gr427 nd := h451
    have hz518 : LpR K415 lp9 rL := h452
    have hO : OKP G h0 a (upd (upd (upd (upd (upd (upd (upd (upd (upd (upd F 2 (nI sz)) 5 (nI cs417)) 6 (nI rg426)) 7 (nI hd)) 8 (nI dp423)) 12 (nI vr)) 13 (as418 &&& as298)) 14 wt419) 15 wf420) 16 ls428) (updR (updR (updR R 2 (.ref pq)) 3 (.ref mq)) 4 (va_rf lp9)) Z (updA B416 17 (aim ((B416 17)) ([cs297]) cs417)) J K415 w := hO.to rfl
    refine W.widen (k := ((rE (g 2 q) - rS (g 2 q)) + 1)) (n := (6 * (rE (g 2 q) - rS (g 2 q)) + 6)) (by omega) (by omega) ?_
    have hzz1 : H.size ≤ s.heap.size + ((rE (g 2 q) - rS (g 2 q))) := (by have z : ((rE (g 2 q2) - rS (g 2 q2)) + (rE (g 2 q3) - rS (g 2 q3))) ≤ (rE (g 2 q) - rS (g 2 q)) := (by omega); omega)
    have hzz2 : hSl H ≤ hSl s.heap + ((6 * (rE (g 2 q) - rS (g 2 q)))) := (by have z : ((6 * (rE (g 2 q2) - rS (g 2 q2))) + (6 * (rE (g 2 q3) - rS (g 2 q3)))) ≤ (6 * (rE (g 2 q) - rS (g 2 q))) := (by omega); omega)
    exact W.vret hx hb hr (fun t99 ht99 hW99 => ⟨⟨_, (w, (K415, (updA B416 17 (aim ((B416 17)) ([cs297]) cs417)), cs417, (as418 &&& as298), wt419, wf420, dp423, Ag494, rg426, gr427, ls428, Q429, (pdm pd430 [cs297]), xb431, xc432)), rfl, ⟨rfl, hz502, hz503, hz504, hz505, hz506, hz507, hz508, hz509, hz510, hz511, hz512, hz513, hz514, hz515, hz516, hz517, hz518, hO⟩, by rw [ht99]; exact hP, hD, by rw [ht99]; exact hzz1, by rw [ht99]; exact hzz2⟩, hS.F ht99⟩) hS.2.2 dX0_ifStatement_139

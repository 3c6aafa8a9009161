/-! a method's code as a whole -/
def MOp (pb : PNb) (O L R H : Nat → Int32) (A : Nat → AS) (sn lo hi : Nat) (Q : RX) (r0 r1 j : Nat) : Prop :=
  CT pb.1 pb.2.1 pb.2.2.1 pb.2.2.2 SgT PfT O L R A (fun _ => False) j sn lo hi ∧ (lo < hi ∧ hi ≤ 10000) ∧ (A hi).1 = 0 ∧
  (∀ pc : Nat, lo ≤ pc → pc < hi → (A pc).1 = 1 → WfA (A pc) ∧ (A pc).2.1 ≤ sn ∧ (A pc).2.2.2.length + sn ≤ 319 ∧ (∃ q : Nat, H pc = nI q ∧ (A pc).2.1 ≤ q ∧ q ≤ sn ∧ (O pc = nI 21 ∨ O pc = nI 22 ∨ O pc = nI 23 ∨ O pc = nI 24 → q = (A pc).2.1)) ∧
    ∀ k : Nat, r0 ≤ k → k < r1 → inR Q k pc → HdO A Q sn k pc ∧ Q.2.2.1 k < hi) ∧
  NsR Q r0 r1 ∧ (∀ pc x : Nat, lo ≤ pc → pc < hi → (A pc).1 = 1 → O pc = nI 28 → x < 10000 → L pc = nI x → LvR A Q r0 r1 pc x) ∧
  (∀ pc s h e : Nat, lo ≤ pc → pc < hi → (A pc).1 = 1 → O pc = nI 30 → s < 10000 → L pc = nI s → e ≤ 1 → (A pc).2.2.1 s = 1000 + 2 * h + e → EnR Q r0 r1 pc s h) ∧
  EnA ((bX pb).2.2.2.2.2 j) ((bX pb).2.2.1 j) ((bX pb).2.2.2.1 j) (A lo) ∧ (bX pb).2.2.1 j + 1 ≤ sn
section ZY
variable {pb : PNb} {fi : Nat → Nat → Prop} {fdn : Nat → Nat} {fty : Nat → Nat → Nat} {X : PXm} {O L R H O1 L1 R1 H1 : Nat → Int32} {A A1 : Nat → AS} {Q Q1 : RX} {pd pd1 : Nat → Prop} {m sn lo hi cs c1 hd hd1 g0 g1 r0 r1 j np ow : Nat} {as as0 v l r q9 : Int32} {sl sl1 pt : Nat → Nat} {os : List Nat}
/-- a method begins -/
theorem EmS.start (hw : WfA (1, hd, sl, [])) (hs : hd ≤ sn) : EmS fi fdn fty X O L R H (upS A cs (rcA as, hd, sl, [])) pd m sn cs cs as hd sl [] := ⟨⟨fun pc a b => by omega, upS_eq⟩, Nat.le_refl _, hw, hs, fun pc a b => by omega⟩
/-- an instruction to which one doesn't come -/
theorem PcS.dead (hA : (A1 cs).1 = 0) : PcS A1 Q O1 L1 pd as0 sn cs (cs + 1) g0 g0 hd sl := by
  have e : ∀ pc : Nat, cs ≤ pc → pc < cs + 1 → (A1 pc).1 = 1 → False := fun pc h1 h2 h3 => by
    have e9 : pc = cs := by omega
    rw [e9, hA] at h3
    exact absurd h3 (by decide)
  exact ⟨⟨fun k _ _ => by omega, fun j k h1 _ => by obtain ⟨a, b, _⟩ := h1; omega, fun pc x p1 p2 p3 => (e pc p1 p2 p3).elim, fun pc s h e9 p1 p2 p3 => (e pc p1 p2 p3).elim⟩, fun pc p1 p2 p3 => (e pc p1 p2 p3).elim, fun pc x p1 p2 p3 => (e pc p1 p2 p3).elim⟩
theorem StW.dead (h : StW fi fdn fty X A A1 Q Q1 pd pd1 m sn lo cs c1 as0 (-1) hd hd1 sl sl1 g0 g1 O1 L1 R1 H1 os) (v l r q9 : Int32) :
    StW fi fdn fty X A (upS A1 (c1 + 1) (rcA (-1), hd1, sl1, [])) Q Q1 pd pd1 m sn lo cs (c1 + 1) as0 (-1) hd hd1 sl sl1 g0 g1 (upI O1 c1 v) (upI L1 c1 l) (upI R1 c1 r) (upI H1 c1 q9) [] := by
  have hA : A1 c1 = (rcA (-1), hd1, sl1, os) := h.1.1.2
  have hA0 : (A1 c1).1 = 0 := by rw [hA]; exact rcA_0
  have ne : ∀ pc : Nat, pc < c1 + 1 → (upS A1 (c1 + 1) (rcA (-1), hd1, sl1, []) pc).1 = 1 → pc < c1 := fun pc a b => by
    rw [upS_ne (by omega)] at b
    by_cases z : pc = c1
    · rw [z, hA0] at b
      exact absurd b (by decide)
    · omega
  obtain ⟨⟨e1, e2⟩, e3, e4, e5, e6⟩ := h.1
  have e : EmS fi fdn fty X (upI O1 c1 v) (upI L1 c1 l) (upI R1 c1 r) (upI H1 c1 q9) (upS A1 (c1 + 1) (rcA (-1), hd1, sl1, [])) pd1 m sn lo (c1 + 1) (-1) hd1 sl1 [] := by
    refine ⟨⟨fun pc a b c d => e1.more (Nat.le_refl _) (fun _ w => w) (ne pc b c) a c d, upS_eq⟩, by omega, (WfA.osx e4), e5, fun pc a b c => ?_⟩
    have b2 := ne pc b c
    rw [upS_ne (by omega)] at c ⊢
    rw [upI_ne (by omega), upI_ne (by omega)]
    exact e6 pc a b2 c
  exact h.add (Nat.le_refl _) (fun x hx => ⟨upS_ne (by omega), upI_ne (by omega), upI_ne (by omega), Iff.rfl⟩) (upS_ne (by omega)) RqS.rfl e (PcS.dead ((congrArg Prod.fst (upS_ne (by omega))).trans hA0)) (fun z => z) h.2.2.2.2.2.2.1 (by omega) (Nat.le_refl _)
theorem MOp.of (h : StW pb.1 pb.2.1 pb.2.2.1 pb.2.2.2 A A1 Q Q1 pd pd1 j sn cs cs c1 as0 (-1) hd hd1 sl sl1 g0 g1 O L R H []) (hn : ∀ z : Nat, ¬ pd1 z) (hs : sn ≤ 71) (hc : cs < c1 ∧ c1 ≤ 10000) (he : EnA ((bX pb).2.2.2.2.2 j) ((bX pb).2.2.1 j) ((bX pb).2.2.2.1 j) (A cs)) (hnp : (bX pb).2.2.1 j + 1 ≤ sn) (hr : ∀ k : Nat, r0 ≤ k → k < r1 → g0 ≤ k ∧ k < g1) : MOp pb O L R H A1 sn cs c1 Q1 r0 r1 j := by
  obtain ⟨⟨⟨ct, ea⟩, _, _, _, rows⟩, ⟨⟨p1, p2, p3, p4⟩, p5, _⟩, hA, _⟩ := h
  have up : ∀ i : Nat, lsR Q1 r0 r1 i → lsR Q1 g0 g1 i := fun i hi => ⟨(hr i hi.1 hi.2.1).1, (hr i hi.1 hi.2.1).2, hi.2.2⟩
  refine ⟨fun pc a b c _ => ct pc a b c (hn pc), hc, by rw [ea]; exact rcA_0, fun pc a b c => ?_, fun i k hi hk => p2 i k (up i hi) (up k hk), fun pc x a b c d e f i hi => p3 pc x a b c d (hn pc) e f i (up i hi), fun pc s h9 e a b c d f g i k => ?_, ?_, hnp⟩
  · obtain ⟨w1, w2, w3, w4⟩ := rows pc a b c
    refine ⟨w1, w2, by omega, w4, fun k k1 k2 k3 => ?_⟩
    obtain ⟨i1, i2⟩ := hr k k1 k2
    exact ⟨(p5 pc a b c).2.2.2 k i1 i2 k3, (p1 k i1 i2).2.2.1⟩
  · obtain ⟨_, _, w1, w2⟩ := p4 pc s h9 e a b c d f g i k
    exact ⟨fun i9 hi => w1 i9 (up i9 hi), fun k9 hk => w2 k9 (up k9 hk)⟩
  · rw [hA cs (Nat.le_refl _)]; exact he
theorem HdO.rqr {k pc : Nat} (h : HdO A Q sn k pc) (e : Q1.2.2.1 k = Q.2.2.1 k ∧ Q1.2.2.2.1 k = Q.2.2.2.1 k ∧ Q1.2.2.2.2.1 k = Q.2.2.2.2.1 k) : HdO A Q1 sn k pc := by
  unfold HdO at h ⊢
  rw [e.1, e.2.1, e.2.2]
  exact h
/-- what comes later leaves it as it is -/
theorem MOp.same (h : MOp pb O L R H A sn lo hi Q r0 r1 j) (hr : ∀ x : Nat, x < hi → O1 x = O x ∧ L1 x = L x ∧ R1 x = R x ∧ H1 x = H x) (hq : RqR Q Q1 r0 r1) : MOp pb O1 L1 R1 H1 A sn lo hi Q1 r0 r1 j := by
  obtain ⟨a1, a2, a3, a4, a5, a6, a7, a8⟩ := h
  refine ⟨fun pc b1 b2 b3 b4 => ?_, a2, a3, fun pc b1 b2 b3 => ?_, fun i k hi hk hp => ?_, fun pc x b1 b2 b3 b4 b5 b6 i hi h1 h2 => ?_, fun pc s h9 e b1 b2 b3 b4 b5 b6 b7 b8 => ?_, a8⟩
  · obtain ⟨k9, c1, c2, c3⟩ := a1 pc b1 b2 b3 b4
    obtain ⟨d1, d2, d3, d4⟩ := hr pc b2
    rw [d1, d2, d3]
    exact ⟨k9, c1, c2, IRk.up (fun _ w => w) (fun _ _ _ w => w) (Nat.le_refl _) (Nat.le_refl _) (fun x _ w => ⟨w.1, w.2.1, (hr x w.2.1).1.trans w.2.2⟩) (fun _ _ => rfl) c3⟩
  · obtain ⟨c1, c2, c3, ⟨q, c4, c5, c6, c7⟩, c8⟩ := a4 pc b1 b2 b3
    obtain ⟨d1, d2, d3, d4⟩ := hr pc b2
    refine ⟨c1, c2, c3, ⟨q, d4.trans c4, c5, c6, by rw [d1]; exact c7⟩, fun k k1 k2 k3 => ?_⟩
    obtain ⟨e1, e2⟩ := c8 k k1 k2 ((inR.rqr hq k1 k2).mp k3)
    obtain ⟨q1, q2, q3, q4, q5, q6⟩ := hq k k1 k2
    exact ⟨e1.rqr ⟨q3, q4, q5⟩, by rw [q3]; exact e2⟩
  · obtain ⟨q1, q2, q3, q4, q5, q6⟩ := hq i hi.1 hi.2.1
    obtain ⟨t1, t2, t3, t4, t5, t6⟩ := hq k hk.1 hk.2.1
    rw [q3] at hp
    rcases a5 i k (lsR.rqr hq hi) (lsR.rqr hq hk) ((inR.rqr hq hk.1 hk.2.1).mp hp) with w | w
    · exact Or.inl (fun pc hp9 => (inR.rqr hq hk.1 hk.2.1).mpr (w pc ((inR.rqr hq hi.1 hi.2.1).mp hp9)))
    · rw [q4, q6, t4, t6]; exact Or.inr w
  · obtain ⟨d1, d2, d3, d4⟩ := hr pc b2
    rw [d1] at b4
    rw [d2] at b6
    obtain ⟨q1, q2, q3, q4, q5, q6⟩ := hq i hi.1 hi.2.1
    rw [q4, q6]
    exact a6 pc x b1 b2 b3 b4 b5 b6 i (lsR.rqr hq hi) ((inR.rqr hq hi.1 hi.2.1).mp h1) (fun z => h2 ((inR.rqr hq hi.1 hi.2.1).mpr z))
  · obtain ⟨d1, d2, d3, d4⟩ := hr pc b2
    rw [d1] at b4
    rw [d2] at b6
    obtain ⟨w1, w2⟩ := a7 pc s h9 e b1 b2 b3 b4 b5 b6 b7 b8
    refine ⟨fun i hi hi2 => ?_, fun k hk hi => ?_⟩
    · obtain ⟨q1, q2, q3, q4, q5, q6⟩ := hq i hi.1 hi.2.1
      rw [q4, q6]
      exact w1 i (lsR.rqr hq hi) (q3.symm.trans hi2)
    · exact (inR.rqr hq hk.1 hk.2.1).mpr (w2 k (lsR.rqr hq hk) ((inR.rqr hq hk.1 hk.2.1).mp hi))
theorem MOp.mo {M : MX} {s0 s1 : Nat → Nat} (h : MOp pb O L R H (M.1 j) (M.2.1 j) (M.2.2.1 j) (M.2.2.2.1 j) Q (s0 j) (s1 j) j) (e1 : M.2.2.2.2.2 j = (fun h x => x < M.2.2.2.1 j ∧ WP (M.1 j) Q (s0 j) (s1 j) h x)) (e2 : M.2.2.2.2.1 j = (bX pb).2.2.2.2.1 j) : MO pb.1 pb.2.1 pb.2.2.1 pb.2.2.2 O L R H M Q s0 s1 j :=
  ⟨h.1, h.2.1, h.2.2.1, h.2.2.2.1, h.2.2.2.2.1, h.2.2.2.2.2.1, h.2.2.2.2.2.2.1, e1, h.2.2.2.2.2.2.2.1, h.2.2.2.2.2.2.2.2, e2⟩
end ZY
/-- the parameters' slots -/
def PaS (K : PK) (ty : Nat → Int32) (sz c0 np : Nat) (it : Nat → Nat) (sl : Nat → Nat) : Prop := sl 0 = c0 ∧ ∀ i : Nat, i < np → sl (i + 1) = tyc (tyN ty sz (K.2.1 2 (it i)))
theorem PaS.nil {K : PK} {ty : Nat → Int32} {sz c0 : Nat} {it : Nat → Nat} : PaS K ty sz c0 0 it (fun _ => c0) := ⟨rfl, fun i hi => absurd hi (by omega)⟩
theorem PaS.add {K : PK} {ty : Nat → Int32} {sz c0 np : Nat} {it sl : Nat → Nat} (h : PaS K ty sz c0 np it sl) : PaS K ty sz c0 (np + 1) it (upM sl (np + 1) (tyc (tyN ty sz (K.2.1 2 (it np))))) := by
  refine ⟨(upM_ne (by omega)).trans h.1, fun i hi => ?_⟩
  by_cases z : i = np
  · rw [z]; exact upM_eq
  · rw [upM_ne (by omega)]; exact h.2 i (by omega)
/-- what is known of a method that has been judged -/
def JdM (pb : PNb) (K : PK) (B : Nat → Nat → Int32) (Q : RX) (cs rg j m : Nat) : Prop := ∃ (A : Nat → AS) (sn lo hi r0 r1 : Nat), MOp pb (B 16) (B 17) (B 18) (B 19) A sn lo hi Q r0 r1 j ∧ hi ≤ cs ∧ (r0 ≤ r1 ∧ r1 ≤ rg) ∧ sn ≤ 71 ∧ K.2.1 11 m = nI lo ∧ K.2.1 12 m = nI sn ∧ K.2.1 13 m = nI r0 ∧ K.2.1 14 m = nI r1
theorem JdM.same {pb : PNb} {K K1 : PK} {B B1 : Nat → Nat → Int32} {Q Q1 : RX} {cs cs1 rg rg1 gr j m : Nat} (h : JdM pb K B Q cs rg j m) (hs : SmW B B1 cs) (hq : RqS Q Q1 gr) (hg : rg ≤ gr) (hk : ∀ f : Nat, 11 ≤ f → f ≤ 14 → K1.2.1 f m = K.2.1 f m) (hc : cs ≤ cs1) (hr : rg ≤ rg1) : JdM pb K1 B1 Q1 cs1 rg1 j m := by
  obtain ⟨A, sn, lo, hi, r0, r1, a1, a2, a3, a4, a5, a6, a7, a8⟩ := h
  exact ⟨A, sn, lo, hi, r0, r1, a1.same (fun x hx => hs x (by omega)) (fun k k1 k2 => hq k (by omega)), by omega, by omega, a4, (hk 11 (by omega) (by omega)).trans a5, (hk 12 (by omega) (by omega)).trans a6, (hk 13 (by omega) (by omega)).trans a7, (hk 14 (by omega) (by omega)).trans a8⟩
/-- only the rows of variables have changed -/
def BvR (B B1 : Nat → Nat → Int32) : Prop := ∀ i : Nat, ¬ (25 ≤ i ∧ i ≤ 27) → B1 i = B i
theorem BvR.rfl {B : Nat → Nat → Int32} : BvR B B := fun _ _ => Eq.refl _
theorem BvR.up {B B1 : Nat → Nat → Int32} {k : Nat} {f : Nat → Int32} (h : BvR B B1) (hk : 25 ≤ k ∧ k ≤ 27) : BvR B (updA B1 k f) := fun i hi => by
  rw [show updA B1 k f i = B1 i from if_neg (fun z => hi (by rw [z]; exact hk))]
  exact h i hi
theorem BvR.bt {B B1 : Nat → Nat → Int32} (h : BvR B B1) : BtR B B1 := fun i hi => h i (fun z => hi (by omega))
def bl2 (K : PK) (g : Nat → Nat → Nat) (m : Nat) : Nat := match K.2.2.1 7 m with
  | none => 0
  | some b => rE (g 2 b) - rS (g 2 b) - 1
theorem bl2_of {K : PK} {g : Nat → Nat → Nat} {m b : Nat} (h : K.2.2.1 7 m = some b) : bl2 K g m = rE (g 2 b) - rS (g 2 b) - 1 := by
  unfold bl2
  rw [h]
/-- the method at a place of the lists -/
def MtP (G : pT) (K : PK) (dr k i m : Nat) : Prop := ∃ (d lm n cp : Nat) (it : Nat → Nat), K.2.2.2.2.1 dr k = some d ∧ K.2.2.1 9 d = some lm ∧ LsC G K lm 3 n it cp ∧ i < n ∧ it i = m
theorem MtP.lt {G : pT} {K : PK} {dr k i m d lm n cp : Nat} {it : Nat → Nat} (h : MtP G K dr k i m) (h1 : K.2.2.2.2.1 dr k = some d) (h2 : K.2.2.1 9 d = some lm) (h3 : LsC G K lm 3 n it cp) : i < n := by
  obtain ⟨d2, lm2, n2, cp2, it2, a1, a2, a3, a4, a5⟩ := h
  have e1 : d = d2 := Option.some.inj (h1.symm.trans a1)
  subst e1
  have e2 : lm = lm2 := Option.some.inj (h2.symm.trans a2)
  subst e2
  have e3 : n = n2 := (nI_eq (by have := h3.2.2.1; omega) (by have := a3.2.2.1; omega)).mp ((LsC.sz h3).symm.trans (LsC.sz a3))
  omega
/-- what is known of a method: whose it is, its parameters, its result, its number -/
def MtOp (pb : PNb) (G : pT) (K : PK) (ty : Nat → Int32) (sz nd nm dr k m : Nat) (it : Nat → Nat) (g : Nat → Nat → Nat) : Prop := OwC K dr m k ∧ ∃ (lp np cp rt : Nat) (itp : Nat → Nat), K.2.2.1 6 m = some lp ∧ LsC G K lp 1 np itp cp ∧ np ≤ 8 ∧ K.2.1 10 m = nI rt ∧ TyV nd rt ∧
  ∀ b : Nat, K.2.2.1 7 m = some b → ndE g b ≤ 40 ∧ rS (g 2 b) + 2 ≤ rE (g 2 b) ∧ ∃ j : Nat, j < nm ∧ it j = m ∧ (bX pb).2.2.1 j = np ∧ (∀ i : Nat, i < np → (bX pb).2.2.2.1 j i = tyc (tyN ty sz (K.2.1 2 (itp i)))) ∧ (bX pb).2.2.2.2.1 j = rt ∧ (bX pb).2.2.2.2.2 j = k
/-- judged so far, but for m -/
def JdO (pb : PNb) (G : pT) (K0 K : PK) (B : Nat → Nat → Int32) (Q : RX) (cs rg dr nm : Nat) (it : Nat → Nat) (k i : Nat) (mo : Option Nat) : Prop := ∀ j k9 i9 : Nat, j < nm → ¬ mo = some (it j) → MtP G K0 dr k9 i9 (it j) → (k9 < k ∨ (k9 = k ∧ i9 < i)) → JdM pb K B Q cs rg j (it j)
section ZW9
variable {pb : PNb} {G : pT} {K0 K K1 K2 K3 : PK} {B B1 : Nat → Nat → Int32} {Q Q1 : RX} {cs cs1 rg rg1 gr dr nm k i m d lm n cp j f p : Nat} {it it9 : Nat → Nat} {a b c e : Int32} {mo : Option Nat}
theorem JdO.nil : JdO pb G K0 K B Q cs rg dr nm it 0 0 none := fun j k9 i9 _ _ _ h => by omega
theorem JdO.same (h : JdO pb G K0 K B Q cs rg dr nm it k i mo) (hs : SmW B B1 cs) (hq : RqS Q Q1 gr) (hg : rg ≤ gr) (hk : ∀ p f : Nat, p < nm → ¬ mo = some (it p) → 11 ≤ f → f ≤ 14 → K1.2.1 f (it p) = K.2.1 f (it p)) (hc : cs ≤ cs1) (hr : rg ≤ rg1) : JdO pb G K0 K1 B1 Q1 cs1 rg1 dr nm it k i mo := fun j k9 i9 h1 h2 h3 h4 => (h j k9 i9 h1 h2 h3 h4).same hs hq hg (fun f => hk j f h1 h2) hc hr
theorem JdO.but (h : JdO pb G K0 K B Q cs rg dr nm it k i none) : JdO pb G K0 K B Q cs rg dr nm it k i (some m) := fun j k9 i9 h1 _ h3 h4 => h j k9 i9 h1 (fun z => by cases z) h3 h4
/-- m is judged too -/
theorem JdO.add (h : JdO pb G K0 K B Q cs rg dr nm it k i (some m)) (hm : ∀ j : Nat, j < nm → it j = m → JdM pb K B Q cs rg j m) (h1 : K0.2.2.2.2.1 dr k = some d) (h2 : K0.2.2.1 9 d = some lm) (h3 : LsC G K0 lm 3 n it9 cp) (hi : i < n) (e : it9 i = m) : JdO pb G K0 K B Q cs rg dr nm it k (i + 1) none := fun j k9 i9 j1 _ j3 j4 => by
  by_cases z : it j = m
  · rw [z]; exact hm j j1 z
  · refine h j k9 i9 j1 (fun w => z (Option.some.inj w).symm) j3 ?_
    rcases j4 with w | ⟨w1, w2⟩
    · exact Or.inl w
    · by_cases y : i9 = i
      · subst w1
        subst y
        obtain ⟨d2, lm2, n2, cp2, it2, a1, a2, a3, a4, a5⟩ := j3
        have e1 : d = d2 := Option.some.inj (h1.symm.trans a1)
        subst e1
        have e2 : lm = lm2 := Option.some.inj (h2.symm.trans a2)
        subst e2
        obtain ⟨r, s1, s2⟩ := LsC.el h3 i9 hi
        obtain ⟨r2, t1, t2⟩ := LsC.el a3 i9 a4
        have e3 : r = r2 := Option.some.inj (s1.symm.trans t1)
        subst e3
        exact absurd ((a5.symm.trans (Option.some.inj (t2.symm.trans s2))).trans e) z
      · exact Or.inr ⟨w1, by omega⟩
/-- a class is through -/
theorem JdO.next (h : JdO pb G K0 K B Q cs rg dr nm it k n mo) (h1 : K0.2.2.2.2.1 dr k = some d) (h2 : K0.2.2.1 9 d = some lm) (h3 : LsC G K0 lm 3 n it9 cp) : JdO pb G K0 K B Q cs rg dr nm it (k + 1) 0 mo := fun j k9 i9 j1 j2 j3 j4 => h j k9 i9 j1 j2 j3 (by
  by_cases z : k9 = k
  · subst z
    exact Or.inr ⟨rfl, j3.lt h1 h2 h3⟩
  · exact Or.inl (by omega))
theorem JdO.zero (h : JdO pb G K0 K B Q cs rg dr nm it k 0 mo) : JdO pb G K0 K B Q cs rg dr nm it k 0 mo := h
/-- the fields of a method that is judged -/
theorem jd_K (e1 : K1 = kI (kI K 11 m a) 13 m b) (hb : BdE K1 K2) (hm : ¬ K.1 m = 0) (e2 : K3 = kI (kI K2 12 m c) 14 m e) : K3.2.1 11 m = a ∧ K3.2.1 12 m = c ∧ K3.2.1 13 m = b ∧ K3.2.1 14 m = e := by
  have h1 : ¬ K1.1 m = 0 := by rw [e1]; exact hm
  refine ⟨?_, ?_, ?_, ?_⟩
  · rw [e2, kI_of (by decide), kI_of (by decide), hb.I h1 (by decide) (by decide), e1, kI_of (by decide)]; exact kI_eq
  · rw [e2, kI_of (by decide)]; exact kI_eq
  · rw [e2, kI_of (by decide), kI_of (by decide), hb.I h1 (by decide) (by decide), e1]; exact kI_eq
  · rw [e2]; exact kI_eq
theorem jd_ne (e1 : K1 = kI (kI K 11 m a) 13 m b) (hn : ¬ p = m) : K1.2.1 f p = K.2.1 f p := by
  rw [e1, kI_ne hn, kI_ne hn]
theorem jd_ne2 (e1 : K1 = kI (kI K 12 m a) 14 m b) (hn : ¬ p = m) : K1.2.1 f p = K.2.1 f p := by
  rw [e1, kI_ne hn, kI_ne hn]
end ZW9
section ZY2
variable {pb : PNb} {A A1 : Nat → AS} {Q Q1 : RX} {pd pd1 : Nat → Prop} {sn lo cs c1 hd g0 g1 r0 r1 j rt rg cs2 : Nat} {as0 as1 op : Int32} {sl : Nat → Nat} {O L R H : Nat → Int32} {K : PK} {B : Nat → Nat → Int32}
theorem StW.endm (h : StW pb.1 pb.2.1 pb.2.2.1 pb.2.2.2 A A1 Q Q1 pd pd1 j sn lo cs c1 as0 as1 hd hd sl sl g0 g1 O L R H []) (ho : (rt = 63 ∧ op = 26) ∨ (¬ rt = 63 ∧ as1 = -1)) (hx : (bX pb).2.2.2.2.1 j = rt) : ∃ A2 : Nat → AS, StW pb.1 pb.2.1 pb.2.2.1 pb.2.2.2 A A2 Q Q1 pd pd1 j sn lo cs (c1 + 1) as0 (-1) hd hd sl sl g0 g1 (upI O c1 op) (upI L c1 0) (upI R c1 0) (upI H c1 (nI hd)) [] := by
  rcases ho with ⟨e1, e2⟩ | ⟨_, e2⟩
  · subst e2
    exact ⟨_, h.ret (l := 0) (r := 0) (hx.trans e1)⟩
  · subst e2
    exact ⟨_, h.dead op 0 0 (nI hd)⟩
theorem JdM.of {m : Nat} (h : StW pb.1 pb.2.1 pb.2.2.1 pb.2.2.2 A A1 Q Q1 pd pd1 j sn cs cs c1 as0 (-1) hd hd sl sl g0 g1 (B 16) (B 17) (B 18) (B 19) []) (hn : ∀ z : Nat, ¬ pd1 z) (hs : sn ≤ 71) (hc : cs < c1 ∧ c1 ≤ 10000) (he : EnA ((bX pb).2.2.2.2.2 j) ((bX pb).2.2.1 j) ((bX pb).2.2.2.1 j) (A cs)) (hnp : (bX pb).2.2.1 j + 1 ≤ sn) (hr : ∀ k : Nat, r0 ≤ k → k < r1 → g0 ≤ k ∧ k < g1) (hr2 : r0 ≤ r1 ∧ r1 ≤ rg) (hc2 : c1 ≤ cs2) (hk : K.2.1 11 m = nI cs ∧ K.2.1 12 m = nI sn ∧ K.2.1 13 m = nI r0 ∧ K.2.1 14 m = nI r1) : JdM pb K B Q1 cs2 rg j m :=
  ⟨A1, sn, cs, c1, r0, r1, MOp.of h hn hs hc he hnp hr, hc2, hr2, hs, hk.1, hk.2.1, hk.2.2.1, hk.2.2.2⟩
/-- the place where a method begins -/
theorem EnA.of {K0 : PK} {ty : Nat → Int32} {sz c0 np nd : Nat} {itp pt : Nat → Nat} (hp : PaS K0 ty sz c0 np itp sl) (hpt : ∀ i : Nat, i < np → pt i = tyc (tyN ty sz (K0.2.1 2 (itp i)))) (hn : nd ≤ 37) (hc : c0 < nd) (htr : TyR ty nd sz) (hsz : sz ≤ 100000) (ha : ¬ as0 = -1) : EnA c0 np pt (upS A cs (rcA as0, np + 1, sl, []) cs) := by
  rw [upS_eq]
  refine ⟨rcA_1 ha, rfl, hp.1, fun k hk => (hp.2 k hk).trans (hpt k hk).symm, rfl, fun s hs => ?_⟩
  have hs9 : s < np + 1 := hs
  by_cases z : s = 0
  · rw [z]
    show sl 0 < 900
    rw [hp.1]; omega
  · show sl s < 900
    have w := hp.2 (s - 1) (by omega)
    rw [show s - 1 + 1 = s by omega] at w
    rw [w]
    exact tyc_900 (htr.V hsz) hn
end ZY2

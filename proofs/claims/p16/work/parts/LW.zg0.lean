/-! what judging knows of the names -/
abbrev bX (pb : PNb) : PXm := pb.2.2.2
/-- a method as it is called: its parameters, its result; whatever is of class c has one that is called so -/
def MeO (pb : PNb) (G : pT) (K : PK) (ty : Nat → Int32) (sz nd c m2 : Nat) : Prop := K.1 m2 = 3 ∧ ∃ (lp np cp rt : Nat) (it : Nat → Nat), K.2.2.1 6 m2 = some lp ∧ LsC G K lp 1 np it cp ∧ np ≤ 8 ∧ K.2.1 10 m2 = nI rt ∧ TyV nd rt ∧
  ∀ d : Nat, (d < 60 → (bX pb).1 d) → pb.1 d c → d < 60 ∧ ∃ j : Nat, (bX pb).2.1 d (K.2.1 6 m2) = some j ∧ (bX pb).2.2.1 j = np ∧ (∀ i : Nat, i < np → (bX pb).2.2.2.1 j i = tyc (tyN ty sz (K.2.1 2 (it i)))) ∧ (bX pb).2.2.2.2.1 j = rt ∧ pb.1 d ((bX pb).2.2.2.2.2 j)
/-- a method as super calls it -/
def MeS (pb : PNb) (G : pT) (K : PK) (ty : Nat → Int32) (sz nd c m2 : Nat) : Prop := K.1 m2 = 3 ∧ ∃ (lp np cp rt j : Nat) (it : Nat → Nat), K.2.2.1 6 m2 = some lp ∧ LsC G K lp 1 np it cp ∧ np ≤ 8 ∧ K.2.1 10 m2 = nI rt ∧ TyV nd rt ∧ K.2.1 9 m2 = nI j ∧ j < 5000 ∧
  (bX pb).2.2.1 j = np ∧ (∀ i : Nat, i < np → (bX pb).2.2.2.1 j i = tyc (tyN ty sz (K.2.1 2 (it i)))) ∧ (bX pb).2.2.2.2.1 j = rt ∧ TL pb.1 c ((bX pb).2.2.2.2.2 j) ∧ ∃ (d : Nat) (x : Int32), (bX pb).1 d ∧ (bX pb).2.1 d x = some j
def FiO (pb : PNb) (K : PK) (dr nd : Nat) : Prop := ∃ bt : Nat → Nat → Prop, pb.1 = fiK bt nd ∧ (∀ i k : Nat, i < nd → (bt i k ↔ btK K dr i k)) ∧ (∀ k : Nat, ¬ bt 0 k) ∧ ∀ i j k : Nat, i < nd → j < nd → k < nd → bt i j → bt j k → bt i k
/-- fields of a class -/
def FdO (pb : PNb) (G : pT) (K : PK) (ty : Nat → Int32) (sz c d : Nat) : Prop := ∃ (lq n cp : Nat) (it : Nat → Nat), K.2.2.1 11 d = some lq ∧ LsC G K lq 1 n it cp ∧ n ≤ 5000 ∧ pb.2.1 c = n ∧ ∀ i : Nat, i < n → K.2.1 0 (it i) = 36 ∧ K.2.1 5 (it i) = nI i ∧ pb.2.2.1 c i = tyc (tyN ty sz (K.2.1 2 (it i)))
def KnO (pb : PNb) (G : pT) (K : PK) (ty : Nat → Int32) (sz nd c d : Nat) : Prop := ∃ (lq n cp : Nat) (it : Nat → Nat), K.2.2.1 12 d = some lq ∧ LsC G K lq 3 n it cp ∧ n ≤ 5000 ∧ ∀ i : Nat, i < n → MeO pb G K ty sz nd c (it i)
def NaB (pb : PNb) (G : pT) (K : PK) (ty : Nat → Int32) (dr nd sz : Nat) : Prop :=
  (nd ≤ 37 ∧ TyR ty nd sz ∧ FiO pb K dr nd) ∧ ∀ c d : Nat, c < nd → K.2.2.2.2.1 dr c = some d → FdO pb G K ty sz c d ∧ KnO pb G K ty sz nd c d ∧ ∀ (p : Nat) (x : Int32) (m2 : Nat), K.2.2.1 10 d = some p → NeP K x 101 p m2 → MeS pb G K ty sz nd c m2
/-- what fits: the one is of the other's type -/
def FtQ (pb : PNb) (t u : Nat) : Prop := ¬ t = 63 ∧ ¬ u = 63 ∧ TL pb.1 t u ∧ (u = 60 → t = 60) ∧ (u = 61 → t = 61) ∧ (t = 61 → u = 61)
section ZG
variable {pb : PNb} {G : pT} {K K1 : PK} {g : Nat → Nat → Nat} {ty ty1 : Nat → Int32} {dr nd sz c d t u m2 p q es n cp : Nat} {it : Nat → Nat} {x : Int32} {o : Option Nat}
theorem fitK.mono {bt bt1 : Nat → Nat → Prop} (h : ∀ i k : Nat, i < nd → bt i k → bt1 i k) (q : fitK bt nd t u) : fitK bt1 nd t u := by
  obtain ⟨q1, q2, q3⟩ := q
  refine ⟨q1, q2, ?_⟩
  rcases q3 with e | e | ⟨e1, e2, e3, e4, e5, e6, e7, e8⟩ | ⟨e1, e2, e3, e4, e5, e6, e7⟩
  · exact Or.inl e
  · exact Or.inr (Or.inl e)
  · exact Or.inr (Or.inr (Or.inl ⟨e1, e2, e3, e4, e5, e6, e7, h _ _ e7 e8⟩))
  · exact Or.inr (Or.inr (Or.inr ⟨e1, e2, e3, e4, e5, e6, h _ _ e6 e7⟩))
theorem FtQ.of (hn : nd ≤ 37) (hf : FiO pb K dr nd) (q : fitK (btK K dr) nd t u) (ht : t < 128) (hu : u < 128) : FtQ pb t u := by
  obtain ⟨bt, f1, f2, f3, f4⟩ := hf
  have q2 : fitK bt nd t u := q.mono (fun i k hi z => (f2 i k hi).mpr z)
  have t3 : ∀ z : Nat, z < 128 → ¬ z = 63 → RfT z ∨ z = 60 ∨ z = 61 := fun z z1 z2 => by unfold RfT; omega
  refine ⟨q.1, q.2.1, ?_, ?_⟩
  · rw [f1]; exact TL.fit hn f3 f4 q2 (t3 t ht q.1) (t3 u hu q.2.1)
  · obtain ⟨_, _, q3⟩ := q
    rcases q3 with e | ⟨e1, e2, e3, e4, e5, e6⟩ | ⟨e1, e2, e3, e4, e5, e6, e7, e8⟩ | ⟨e1, e2, e3, e4, e5, e6, e7⟩ <;> exact ⟨fun z => by omega, fun z => by omega, fun z => by omega⟩
/-- names stay while bodies are judged -/
theorem BdE.lsc (hb : BdE K K1) (h : LsC G K q es n it cp) (he : ¬ es = 0) : LsC G K1 q es n it cp := BdX.ls (BdE.x hb) he h
theorem BdE.btk9 (hb : BdE K K1) (hdc : DcR K g dr nd) (hdr : ¬ K.1 dr = 0) {i k : Nat} (hi : i < nd) : btK K dr i k ↔ btK K1 dr i k := by
  obtain ⟨d1, h1, h2, _⟩ := hdc i hi
  have hd : ¬ K.1 d1 = 0 := by rw [h2]; decide
  have e1 := (hb.1 dr hdr).2.2.2.2.1
  have e2 := (hb.1 d1 hd).2.2.2.1
  constructor
  · rintro ⟨d2, z1, z2⟩
    have e : d1 = d2 := Option.some.inj (h1.symm.trans z1)
    subst e
    exact ⟨d1, by rw [e1]; exact z1, by rw [e2]; exact z2⟩
  · rintro ⟨d2, z1, z2⟩
    rw [e1] at z1
    have e : d1 = d2 := Option.some.inj (h1.symm.trans z1)
    subst e
    exact ⟨d1, z1, by rw [← e2]; exact z2⟩
theorem BdE.low (hb : BdE K K1) (h : LsC G K q es n it cp) (he : ¬ es = 0) {i : Nat} (hi : i < n) : ¬ K.1 (it i) = 0 := by
  rw [h.T hi]; exact he
theorem MeO.be (hb : BdE K K1) (h : MeO pb G K ty sz nd c m2) : MeO pb G K1 ty sz nd c m2 := by
  obtain ⟨h1, lp, np, cp, rt, it, a1, a2, a3, a4, a5, a6⟩ := h
  have hn : ¬ K.1 m2 = 0 := by rw [h1]; decide
  refine ⟨hb.T h1 (by decide), lp, np, cp, rt, it, (hb.C hn 6).trans a1, hb.lsc a2 (by decide), a3, (hb.I hn (by decide) (by decide)).trans a4, a5, fun d d1 d2 => ?_⟩
  obtain ⟨b1, j, b2, b3, b4, b5⟩ := a6 d d1 d2
  refine ⟨b1, j, by rw [hb.I hn (by decide) (by decide)]; exact b2, b3, fun i hi => ?_, b5⟩
  rw [hb.I (hb.low a2 (by decide) hi) (by decide) (by decide)]; exact b4 i hi
theorem MeS.be (hb : BdE K K1) (h : MeS pb G K ty sz nd c m2) : MeS pb G K1 ty sz nd c m2 := by
  obtain ⟨h1, lp, np, cp, rt, j, it, a1, a2, a3, a4, a5, a6, a7, a8, a9, a10⟩ := h
  have hn : ¬ K.1 m2 = 0 := by rw [h1]; decide
  refine ⟨hb.T h1 (by decide), lp, np, cp, rt, j, it, (hb.C hn 6).trans a1, hb.lsc a2 (by decide), a3, (hb.I hn (by decide) (by decide)).trans a4, a5, (hb.I hn (by decide) (by decide)).trans a6, a7, a8, fun i hi => ?_, a10⟩
  rw [hb.I (hb.low a2 (by decide) hi) (by decide) (by decide)]; exact a9 i hi
theorem OwP.back (hb : BdE K K1) (hw : WPr G K g) (hq : K.1 q = 4) (h : OwP K1 q x o) : OwP K q x o := by
  obtain ⟨lq, n, it, a1, a2, a3, a4, a5⟩ := h
  have hqn : ¬ K.1 q = 0 := by rw [hq]; decide
  rw [hb.C hqn 9] at a1
  obtain ⟨l2, b1, b2, b3, b4⟩ := (hw.2.2.1 q hq).2.1
  have e : l2 = lq := Option.some.inj (b1.symm.trans a1)
  subst e
  have hln : ¬ K.1 l2 = 0 := by rw [b2]; decide
  rw [hb.I hln (by decide) (by decide)] at a2
  obtain ⟨n2, it2, cp2, c1, c2, c3⟩ := hw.2.1 l2 b2
  rw [b3] at c1
  have c1 : LsC G K l2 3 n2 it2 cp2 := c1
  have en : n2 = n := (nI_eq (by have := c1.2.2.1; omega) (by omega)).mp ((LsC.sz c1).symm.trans a2)
  subst en
  have ei : ∀ i : Nat, i < n2 → it i = it2 i := fun i hi => by
    obtain ⟨r, r1, r2⟩ := a4 i hi
    obtain ⟨e9, s1, s2⟩ := LsC.el c1 i hi
    rw [hb.C hln 13] at r1
    have e : e9 = r := Option.some.inj (s1.symm.trans r1)
    subst e
    obtain ⟨e8, t1, t2, t3, t4, t5, t6⟩ := c1.ls.at hi
    have e' : e8 = e9 := Option.some.inj (t1.symm.trans s1)
    subst e'
    rw [(hb.1 e8 (by rw [t2]; decide)).2.2.2.2.1] at r2
    exact Option.some.inj (r2.symm.trans s2)
  have ne : ∀ i : Nat, i < n2 → K1.2.1 6 (it i) = K.2.1 6 (it i) := fun i hi => by
    rw [ei i hi]
    exact hb.I (hb.low c1 (by decide) hi) (by decide) (by decide)
  refine ⟨l2, n2, it, a1, a2, a3, fun i hi => ?_, ?_⟩
  · rw [ei i hi]; exact LsC.el c1 i hi
  · rcases a5 with ⟨z1, z2⟩ | ⟨i, z1, z2, z3, z4⟩
    · exact Or.inl ⟨z1, fun i hi => by rw [← ne i hi]; exact z2 i hi⟩
    · exact Or.inr ⟨i, z1, z2, (ne i z1).symm.trans z3, fun j hj => by rw [← ne j (by omega)]; exact z4 j hj⟩
theorem NeP.back (hb : BdE K K1) (hw : WPr G K g) : ∀ {n q : Nat}, K.1 q = 4 → NeP K1 x n q m2 → NeP K x n q m2
  | 0, _, _, h => h.elim
  | n + 1, q, hq, h => by
    rcases h with h | ⟨h1, p, h2, h3⟩
    · exact Or.inl (h.back hb hw hq)
    · rw [hb.C (by rw [hq]; decide) 10] at h2
      exact Or.inr ⟨h1.back hb hw hq, p, h2, NeP.back hb hw ((hw.2.2.1 q hq).2.2.2.2.1 p h2) h3⟩
theorem NaB.be (hb : BdE K K1) (hf : BeF K K1) (hw : WPr G K g) (hdc : DcR K g dr nd) (hdr : ¬ K.1 dr = 0) (e : ty1 = ty) (h : NaB pb G K ty dr nd sz) : NaB pb G K1 ty1 dr nd sz := by
  subst e
  obtain ⟨⟨h1, h2, bt, f1, f2, f3, f4⟩, h3⟩ := h
  refine ⟨⟨h1, h2, bt, f1, fun i k hi => (f2 i k hi).trans (hb.btk9 hdc hdr hi), f3, f4⟩, fun c d hc hd => ?_⟩
  rw [(hb.1 dr hdr).2.2.2.2.1] at hd
  obtain ⟨d1, k1, k2, _⟩ := hdc c hc
  have e : d1 = d := Option.some.inj (k1.symm.trans hd)
  subst e
  have hdn : ¬ K.1 d1 = 0 := by rw [k2]; decide
  obtain ⟨⟨lq, n, cp, it, a1, a2, a3, a4, a5⟩, ⟨lq2, n2, cp2, it2, b1, b2, b3, b4⟩, c1⟩ := h3 c d1 hc hd
  refine ⟨⟨lq, n, cp, it, (hb.C hdn 11).trans a1, hb.lsc a2 (by decide), a3, a4, fun i hi => ?_⟩, ⟨lq2, n2, cp2, it2, (hb.C hdn 12).trans b1, hb.lsc b2 (by decide), b3, fun i hi => (b4 i hi).be hb⟩, fun p x m2 z1 z2 => ?_⟩
  · have hn := hb.low a2 (by decide) hi
    obtain ⟨a6, a7, a8⟩ := a5 i hi
    exact ⟨(hb.I hn (by decide) (by decide)).trans a6, (hf _ (a2.T hi) a6).trans a7, by rw [hb.I hn (by decide) (by decide)]; exact a8⟩
  · rw [hb.C hdn 10] at z1
    exact (c1 p x m2 z1 (z2.back hb hw ((hw.2.2.1 d1 k2).2.2.2.2.1 p z1))).be hb
theorem EnV.of {f26 f27 h26 h27 : Nat → Int32} {vr hd c0 : Nat} {sl : Nat → Nat} (e1 : h26 = f26) (e2 : h27 = f27) (h : EnV f26 f27 nd vr hd c0 sl) : EnV h26 h27 nd vr hd c0 sl := by
  rw [e1, e2]; exact h
end ZG

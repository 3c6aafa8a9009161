/-! names: all rounds -/
def JnQ (G : pT) (K0 K1 : PK) (g : Nat → Nat → Nat) (dr nd : Nat) (V ro kd : Nat → Int32) (sz : Nat) (ty : Nat → Int32) (ab : Nat → Int64) : Prop :=
  (WPr G K0 g ∧ DcR K0 g dr nd ∧ DcA K0 dr nd ∧ LyS g K0 K1) ∧
  (AbF K0 dr nd ab ∧ PaB K0 dr nd ab ∧ WCl ab nd nd ∧ Bi0 ab 7 ∧ CAb K0 dr nd ab nd ∧ PaX K0 dr nd nd ∧ ∀ k : Nat, 7 ≤ k → k < nd → ¬ bitL (ab k) k) ∧
  (Rd1 G K0 dr nd V ro sz ∧ TyX K0 dr nd V ro kd sz ty ∧ Rd3 G K0 dr nd ty sz) ∧ SlA G K0 K1 dr nd ∧ KnA G K0 K1 dr nd nd ∧ RsA G K0 K1 dr ty sz nd
/-- what the rounds leave as it was: all but the least fault, parents, what stands above -/
def JnX (K K0 : PK) (pq : Nat) : Prop := (∀ p : Nat, K0.1 p = K.1 p) ∧ (∀ f p : Nat, ¬ f = 25 → K0.2.1 f p = K.2.1 f p) ∧ (∀ f p : Nat, ¬ f = 10 → K0.2.2.1 f p = K.2.2.1 f p) ∧ (∀ p : Nat, K0.2.2.2.2.1 p = K.2.2.2.2.1 p) ∧ ∀ p : Nat, K0.2.2.2.2.2 p = K.2.2.2.2.2 p
section GNC
variable {G : pT} {K K1 K2 K3 : PK} {g : Nat → Nat → Nat} {pq dr nd d q es n cp sz : Nat} {it : Nat → Nat} {V ro kd ty : Nat → Int32} {ab : Nat → Int64} {x : Int32} {o : Option Nat}
theorem LgK.sy (h : LgK K K1 pq) : LgK K1 K pq := by
  obtain ⟨v, e⟩ := h
  exact ⟨K.2.1 25 pq, by rw [e, kI_kI]; exact kI_self.symm⟩
theorem LkX.sy (h : LkX K K1) : LkX K1 K := ⟨fun p => (h.1 p).symm, fun f p => (h.2.1 f p).symm, fun f p hf => (h.2.2.1 f p hf).symm, fun p => (h.2.2.2.1 p).symm, fun p => (h.2.2.2.2 p).symm⟩
theorem LkX.lsc (h : LkX K K1) (hl : LsC G K q es n it cp) : LsC G K1 q es n it cp := by
  obtain ⟨h1, h2, h3, h4⟩ := hl
  refine ⟨(h.1 q).trans h1, (h.2.1 23 q).trans h2, h3, ?_⟩
  rcases h4 with ⟨z1, z2⟩ | ⟨e9, z1, z2, z3, z4, z5, z6, z7, z8⟩
  · exact Or.inl ⟨(h.2.2.1 13 q (by decide)).trans z1, z2⟩
  · refine Or.inr ⟨e9, (h.2.2.1 13 q (by decide)).trans z1, (h.1 e9).trans z2, (h.2.2.1 17 e9 (by decide)).trans z3, (h.2.2.2.2 e9).trans z4, z5, z6, z7, fun i hi => ?_⟩
    rw [h.2.2.2.1 e9, h.1 (it i)]
    exact z8 i hi
theorem LkX.owp (h : LkX K K1) (w : OwP K1 q x o) : OwP K q x o := by
  obtain ⟨lq, n, it, a1, a2, a3, a4, a5⟩ := w
  have h6 : ∀ p : Nat, K1.2.1 6 p = K.2.1 6 p := fun p => h.2.1 6 p
  rw [h.2.2.1 9 q (by decide)] at a1
  rw [h.2.1 23 lq] at a2
  refine ⟨lq, n, it, a1, a2, a3, fun i hi => ?_, ?_⟩
  · obtain ⟨r, r1, r2⟩ := a4 i hi
    rw [h.2.2.1 13 lq (by decide)] at r1
    rw [h.2.2.2.1] at r2
    exact ⟨r, r1, r2⟩
  · rcases a5 with ⟨z1, z2⟩ | ⟨i, z1, z2, z3, z4⟩
    · exact Or.inl ⟨z1, fun i hi => by rw [← h6]; exact z2 i hi⟩
    · exact Or.inr ⟨i, z1, z2, by rw [← h6]; exact z3, fun j hj => by rw [← h6]; exact z4 j hj⟩
theorem LkX.nmi {b : Int32} (h : LkX K K1) (w : NmI K1 dr nd V sz x b) : NmI K dr nd V sz x b := by
  obtain ⟨k, e, a1, a2, a3, a4⟩ := w
  rw [h.2.2.2.1] at a3
  rw [h.2.1 18 e] at a4
  exact ⟨k, e, a1, h.fdx a2, a3, a4⟩
theorem LkX.nmt {b : Int32} (h : LkX K K1) (w : NmT K1 dr nd V sz x b) : NmT K dr nd V sz x b := by
  obtain ⟨k, e, a1, a2, a3, a4⟩ := w
  rw [h.2.2.2.1] at a3
  rw [h.2.1 18 e] at a4
  exact ⟨k, e, a1, h.fdx a2, a3, a4⟩
theorem LkX.rd1 (h : LkX K K1) (w : Rd1 G K1 dr nd V ro sz) : Rd1 G K dr nd V ro sz := by
  obtain ⟨w1, w2⟩ := w
  refine ⟨fun k h7 hk d he => ?_, fun t ht hr => h.nmt (w2 t ht hr)⟩
  obtain ⟨z1, z2, z3⟩ := w1 k h7 hk d (by rw [h.2.2.2.1]; exact he)
  rw [h.2.1 19 d] at z2
  rw [h.2.1 20 d, h.2.1 21 d] at z3
  refine ⟨fun lm n cp it e1 e2 i hi => ?_, fun y => h.nmi (z2 y), fun i hi y => h.nmi (z3 i hi y)⟩
  have z := z1 lm n cp it (by rw [h.2.2.1 9 d (by decide)]; exact e1) (LkX.lsc h e2) i hi
  rw [h.2.1 6] at z
  exact h.owp z
theorem LgK.rd1 (h : LgK K K1 pq) (w : Rd1 G K1 dr nd V ro sz) : Rd1 G K dr nd V ro sz := by
  obtain ⟨w1, w2⟩ := w
  refine ⟨fun k h7 hk d he => ?_, fun t ht hr => h.nmt (w2 t ht hr)⟩
  obtain ⟨z1, z2⟩ := w1 k h7 hk d (by rw [LgK.E h]; exact he)
  exact ⟨h.ows z1, h.hdk z2⟩
theorem LkX.tyx (h : LkX K K1) (w : TyX K1 dr nd V ro kd sz ty) : TyX K dr nd V ro kd sz ty := fun t ht => by
  obtain ⟨r, a1, a2, a3⟩ := w t ht
  exact ⟨r, fun z => h.fdx (a1 z), a2, a3⟩
theorem LgK.tyx (h : LgK K K1 pq) (w : TyX K1 dr nd V ro kd sz ty) : TyX K dr nd V ro kd sz ty := fun t ht => by
  obtain ⟨r, a1, a2, a3⟩ := w t ht
  exact ⟨r, fun z => h.fdx (a1 z), a2, a3⟩
theorem LgK.flp (h : LgK K K1 pq) (w : FlP G K d n it) : FlP G K1 d n it := by
  obtain ⟨lf, cp, a1, a2⟩ := w
  exact ⟨lf, cp, by rw [LgK.C h]; exact a1, LgK.ls h a2⟩
theorem LkX.flp (h : LkX K K1) (w : FlP G K d n it) : FlP G K1 d n it := by
  obtain ⟨lf, cp, a1, a2⟩ := w
  exact ⟨lf, cp, by rw [h.2.2.1 8 d (by decide)]; exact a1, LkX.lsc h a2⟩
theorem LgK.fuo (h : LgK K K1 pq) (w : FuO G K1) : FuO G K := fun d1 d2 n1 n2 a b i1 i2 h1 h2 f1 f2 => w d1 d2 n1 n2 a b i1 i2 (by rw [LgK.T h]; exact h1) (by rw [LgK.T h]; exact h2) (h.flp f1) (h.flp f2)
theorem LkX.fuo (h : LkX K K1) (w : FuO G K1) : FuO G K := fun d1 d2 n1 n2 a b i1 i2 h1 h2 f1 f2 => w d1 d2 n1 n2 a b i1 i2 (by rw [h.1]; exact h1) (by rw [h.1]; exact h2) (h.flp f1) (h.flp f2)
theorem LgK.abf (h : LgK K K1 pq) (w : AbF K1 dr nd ab) : AbF K dr nd ab := fun k hk d he => by
  rw [← LgK.L h]
  exact w k hk d (by rw [LgK.E h]; exact he)
theorem LgK.pab (h : LgK K K1 pq) (w : PaB K1 dr nd ab) : PaB K dr nd ab := fun j hj d p he hp => by
  obtain ⟨i, a1, a2, a3⟩ := w j hj d p (by rw [LgK.E h]; exact he) (by rw [LgK.C h]; exact hp)
  rw [LgK.E h] at a2
  exact ⟨i, a1, a2, a3⟩
theorem LgK.cab {k : Nat} (h : LgK K K1 pq) (w : CAb K1 dr nd ab k) : CAb K dr nd ab k := fun j b d e h1 h2 h3 h4 h5 h6 => by
  rcases w j b d e h1 h2 h3 h4 (by rw [LgK.E h]; exact h5) (by rw [LgK.E h]; exact h6) with z | z | ⟨z1, n, z2⟩
  · exact Or.inl z
  · rw [LgK.I h 18 e (by decide)] at z
    exact Or.inr (Or.inl z)
  · rw [LgK.I h 18 d (by decide)] at z1
    exact Or.inr (Or.inr ⟨z1, n, AnP.same (fun y => (LgK.C h 10 y).symm) z2⟩)
theorem LgK.pax {k : Nat} (h : LgK K K1 pq) (w : PaX K1 dr nd k) : PaX K dr nd k := fun j d h1 h2 h3 => by
  have z := w j d h1 h2 (by rw [LgK.E h]; exact h3)
  rw [LgK.I h 18 d (by decide), LgK.C h] at z
  refine ⟨z.1, fun a b => ?_⟩
  obtain ⟨i, p, b1, b2, b3, b4⟩ := z.2 a b
  rw [LgK.E h] at b2
  rw [LgK.I h 18 p (by decide)] at b4
  exact ⟨i, p, b1, b2, b3, b4⟩
theorem LgK.rd3 (h : LgK K K1 pq) (w : Rd3 G K1 dr nd ty sz) : Rd3 G K dr nd ty sz := by
  obtain ⟨w1, k, d, m, a1, a2, a3, a4, a5, a6, lp, cp, it, b1, b2⟩ := w
  refine ⟨fun k h7 hk d he u e hu he2 hb => h.jma (w1 k h7 hk d (by rw [LgK.E h]; exact he) u e hu (by rw [LgK.E h]; exact he2) (by rw [LgK.L h]; exact hb)), k, d, m, a1, h.fdx a2, ?_, ?_, h.nep a5, ?_, lp, cp, it, ?_, LgK.ls h.sy b2⟩
  · rw [← LgK.E h]; exact a3
  · rw [← LgK.I h 18 d (by decide)]; exact a4
  · rw [← LgK.I h 8 m (by decide)]; exact a6
  · rw [← LgK.C h]; exact b1
theorem JnX.of (h : LgK K K1 pq) (h2 : LkX K1 K2) (h3 : LgK K2 K3 pq) : JnX K K3 pq := ⟨fun p => (LgK.T h3 p).trans ((h2.1 p).trans (LgK.T h p)), fun f p hf => (LgK.I h3 f p hf).trans ((h2.2.1 f p).trans (LgK.I h f p hf)), fun f p hf => (LgK.C h3 f p).trans ((h2.2.2.1 f p hf).trans (LgK.C h f p)), fun p => (LgK.E h3 p).trans ((h2.2.2.2.1 p).trans (LgK.E h p)), fun p => by
  obtain ⟨v, e⟩ := h
  obtain ⟨v3, e3⟩ := h3
  rw [e3]
  rw [e] at h2
  exact h2.2.2.2.2 p⟩
end GNC

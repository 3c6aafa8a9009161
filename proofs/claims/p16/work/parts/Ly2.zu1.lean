/-! names stay while methods are judged, one after the other -/
section ZZ
variable {pb : PNb} {G : pT} {K K1 : PK} {g : Nat → Nat → Nat} {ty ty1 : Nat → Int32} {dr nd sz c d t u m2 p q es n cp : Nat} {it : Nat → Nat} {x : Int32} {o : Option Nat}
theorem BdX.lsx (hb : BdX K K1) (h : LsC G K q es n it cp) (he : ¬ es = 0) : LsC G K1 q es n it cp := BdX.ls hb he h
theorem BdX.btk9 (hb : BdX K K1) (hdc : DcR K g dr nd) (hdr : ¬ K.1 dr = 0) {i k : Nat} (hi : i < nd) : btK K dr i k ↔ btK K1 dr i k := by
  obtain ⟨d1, h1, h2, _⟩ := hdc i hi
  have hd : ¬ K.1 d1 = 0 := by rw [h2]; decide
  have e1 := (hb.1 dr hdr).2.2.2.2.1
  have e2 := (hb.1 d1 hd).2.2.2.1
  constructor
  · rintro ⟨d2, z1, z2⟩
    have e : d1 = d2 := Option.some.inj (h1.symm.trans z1)
    subst e
    exact ⟨d1, by rw [e1]; exact z1, by rw [e2]; exact z2⟩
  · rintro ⟨d2, z1, z2⟩
    rw [e1] at z1
    have e : d1 = d2 := Option.some.inj (h1.symm.trans z1)
    subst e
    exact ⟨d1, z1, by rw [← e2]; exact z2⟩
theorem BdX.low (hb : BdX K K1) (h : LsC G K q es n it cp) (he : ¬ es = 0) {i : Nat} (hi : i < n) : ¬ K.1 (it i) = 0 := by
  rw [h.T hi]; exact he
theorem MeO.bx (hb : BdX K K1) (h : MeO pb G K ty sz nd c m2) : MeO pb G K1 ty sz nd c m2 := by
  obtain ⟨h1, lp, np, cp, rt, it, a1, a2, a3, a4, a5, a6⟩ := h
  have hn : ¬ K.1 m2 = 0 := by rw [h1]; decide
  refine ⟨hb.T h1 (by decide), lp, np, cp, rt, it, (hb.C hn 6).trans a1, hb.lsx a2 (by decide), a3, (hb.I hn (by decide)).trans a4, a5, fun d d1 d2 => ?_⟩
  obtain ⟨b1, j, b2, b3, b4, b5⟩ := a6 d d1 d2
  refine ⟨b1, j, by rw [hb.I hn (by decide)]; exact b2, b3, fun i hi => ?_, b5⟩
  rw [hb.I (hb.low a2 (by decide) hi) (by decide)]; exact b4 i hi
theorem MeS.bx (hb : BdX K K1) (h : MeS pb G K ty sz nd c m2) : MeS pb G K1 ty sz nd c m2 := by
  obtain ⟨h1, lp, np, cp, rt, j, it, a1, a2, a3, a4, a5, a6, a7, a8, a9, a10⟩ := h
  have hn : ¬ K.1 m2 = 0 := by rw [h1]; decide
  refine ⟨hb.T h1 (by decide), lp, np, cp, rt, j, it, (hb.C hn 6).trans a1, hb.lsx a2 (by decide), a3, (hb.I hn (by decide)).trans a4, a5, (hb.I hn (by decide)).trans a6, a7, a8, fun i hi => ?_, a10⟩
  rw [hb.I (hb.low a2 (by decide) hi) (by decide)]; exact a9 i hi
theorem OwP.backx (hb : BdX K K1) (hw : WPr G K g) (hq : K.1 q = 4) (h : OwP K1 q x o) : OwP K q x o := by
  obtain ⟨lq, n, it, a1, a2, a3, a4, a5⟩ := h
  have hqn : ¬ K.1 q = 0 := by rw [hq]; decide
  rw [hb.C hqn 9] at a1
  obtain ⟨l2, b1, b2, b3, b4⟩ := (hw.2.2.1 q hq).2.1
  have e : l2 = lq := Option.some.inj (b1.symm.trans a1)
  subst e
  have hln : ¬ K.1 l2 = 0 := by rw [b2]; decide
  rw [hb.I hln (by decide)] at a2
  obtain ⟨n2, it2, cp2, c1, c2, c3⟩ := hw.2.1 l2 b2
  rw [b3] at c1
  have c1 : LsC G K l2 3 n2 it2 cp2 := c1
  have en : n2 = n := (nI_eq (by have := c1.2.2.1; omega) (by omega)).mp ((LsC.sz c1).symm.trans a2)
  subst en
  have ei : ∀ i : Nat, i < n2 → it i = it2 i := fun i hi => by
    obtain ⟨r, r1, r2⟩ := a4 i hi
    obtain ⟨e9, s1, s2⟩ := LsC.el c1 i hi
    rw [hb.C hln 13] at r1
    have e : e9 = r := Option.some.inj (s1.symm.trans r1)
    subst e
    obtain ⟨e8, t1, t2, t3, t4, t5, t6⟩ := c1.ls.at hi
    have e' : e8 = e9 := Option.some.inj (t1.symm.trans s1)
    subst e'
    rw [(hb.1 e8 (by rw [t2]; decide)).2.2.2.2.1] at r2
    exact Option.some.inj (r2.symm.trans s2)
  have ne : ∀ i : Nat, i < n2 → K1.2.1 6 (it i) = K.2.1 6 (it i) := fun i hi => by
    rw [ei i hi]
    exact hb.I (hb.low c1 (by decide) hi) (by decide)
  refine ⟨l2, n2, it, a1, a2, a3, fun i hi => ?_, ?_⟩
  · rw [ei i hi]; exact LsC.el c1 i hi
  · rcases a5 with ⟨z1, z2⟩ | ⟨i, z1, z2, z3, z4⟩
    · exact Or.inl ⟨z1, fun i hi => by rw [← ne i hi]; exact z2 i hi⟩
    · exact Or.inr ⟨i, z1, z2, (ne i z1).symm.trans z3, fun j hj => by rw [← ne j (by omega)]; exact z4 j hj⟩
theorem NeP.backx (hb : BdX K K1) (hw : WPr G K g) : ∀ {n q : Nat}, K.1 q = 4 → NeP K1 x n q m2 → NeP K x n q m2
  | 0, _, _, h => h.elim
  | n + 1, q, hq, h => by
    rcases h with h | ⟨h1, p, h2, h3⟩
    · exact Or.inl (h.backx hb hw hq)
    · rw [hb.C (by rw [hq]; decide) 10] at h2
      exact Or.inr ⟨h1.backx hb hw hq, p, h2, NeP.backx hb hw ((hw.2.2.1 q hq).2.2.2.2.1 p h2) h3⟩
theorem NaB.bx (hb : BdX K K1) (hf : BeF K K1) (hw : WPr G K g) (hdc : DcR K g dr nd) (hdr : ¬ K.1 dr = 0) (e : ty1 = ty) (h : NaB pb G K ty dr nd sz) : NaB pb G K1 ty1 dr nd sz := by
  subst e
  obtain ⟨⟨h1, h2, bt, f1, f2, f3, f4⟩, h3⟩ := h
  refine ⟨⟨h1, h2, bt, f1, fun i k hi => (f2 i k hi).trans (hb.btk9 hdc hdr hi), f3, f4⟩, fun c d hc hd => ?_⟩
  rw [(hb.1 dr hdr).2.2.2.2.1] at hd
  obtain ⟨d1, k1, k2, _⟩ := hdc c hc
  have e : d1 = d := Option.some.inj (k1.symm.trans hd)
  subst e
  have hdn : ¬ K.1 d1 = 0 := by rw [k2]; decide
  obtain ⟨⟨lq, n, cp, it, a1, a2, a3, a4, a5⟩, ⟨lq2, n2, cp2, it2, b1, b2, b3, b4⟩, c1⟩ := h3 c d1 hc hd
  refine ⟨⟨lq, n, cp, it, (hb.C hdn 11).trans a1, hb.lsx a2 (by decide), a3, a4, fun i hi => ?_⟩, ⟨lq2, n2, cp2, it2, (hb.C hdn 12).trans b1, hb.lsx b2 (by decide), b3, fun i hi => (b4 i hi).bx hb⟩, fun p x m2 z1 z2 => ?_⟩
  · have hn := hb.low a2 (by decide) hi
    obtain ⟨a6, a7, a8⟩ := a5 i hi
    exact ⟨(hb.I hn (by decide)).trans a6, (hf _ (a2.T hi) a6).trans a7, by rw [hb.I hn (by decide)]; exact a8⟩
  · rw [hb.C hdn 10] at z1
    exact (c1 p x m2 z1 (z2.backx hb hw ((hw.2.2.1 d1 k2).2.2.2.2.1 p z1))).bx hb
end ZZ
section ZZK
variable {pb : PNb} {K K1 : PK} {g : Nat → Nat → Nat} {kd ty kd1 ty1 : Nat → Int32} {sz q t : Nat}
theorem BdX.old1 (hb : BdX K K1) (h : K1.1 q = 1) : K.1 q = 1 := by
  by_cases z : K.1 q = 0
  · rcases hb.2 q z with w | w
    · rw [h] at w; exact absurd w (by decide)
    · rw [h] at w; exact absurd w (by decide)
  · exact (hb.1 q z).1.symm.trans h
end ZZK
section ZZA
variable {pb : PNb} {K K1 : PK} {g : Nat → Nat → Nat} {O L R H : Nat → Int32} {A : Nat → AS} {pd : Nat → Prop} {m sn lo cs hd np rt c q x p t u : Nat} {x1 x2 as : Int32} {sl pt pt1 : Nat → Nat} {os ar : List Nat} {o : Option Nat} {fi : Nat → Nat → Prop}
theorem MmA.bx (hb : BdX K K1) (h : MmA K g q x) : MmA K1 g q x := ⟨hb.T h.1 (by decide), h.2⟩
theorem ArF.bx (hb : BdX K K1) (hq : K.1 q = 1) (h : ArF K g q) : ArF K1 g q := by
  refine ⟨fun x hx => ?_, fun x y hx hy => ?_⟩
  · rw [hb.C (by rw [hq]; decide) 1] at hx
    exact ⟨(h.1 x hx).1.bx hb, (h.1 x hx).2⟩
  · by_cases z : K.1 x = 0
    · rcases hb.2 x z with w | w
      · rw [hx.1] at w; exact absurd w (by decide)
      · rw [hx.1] at w; exact absurd w (by decide)
    · have e := (hb.1 x z).1
      have hx0 : MmA K g q x := ⟨e.symm.trans hx.1, hx.2⟩
      rw [hb.C z 4] at hy
      exact ⟨(h.2 x y hx0 hy).1.bx hb, (h.2 x y hx0 hy).2⟩
end ZZA
section ZZK2
variable {pb : PNb} {K K1 : PK} {g : Nat → Nat → Nat} {kd ty kd1 ty1 : Nat → Int32} {sz q t : Nat}
theorem EkA.bx (hb : BdX K K1) (e1 : kd1 = kd) (e2 : ty1 = ty) (h : EkA pb K g kd ty sz) : EkA pb K1 g kd1 ty1 sz := fun q hq hl => by
  subst e1
  subst e2
  have hq0 := hb.old1 hq
  have hn : ¬ K.1 q = 0 := by rw [hq0]; decide
  obtain ⟨a1, a2, a3, a4, a5, a6, a7, a8⟩ := h q hq0 hl
  have k0 : K1.2.1 0 q = K.2.1 0 q := hb.I hn (by decide)
  have k1 : K1.2.1 1 q = K.2.1 1 q := hb.I hn (by decide)
  unfold EkO ObK
  rw [k0, k1, hb.C hn 0, hb.C hn 1, hb.C hn 2]
  exact ⟨a1, a2, a3, fun z => ⟨(a4 z).1.bx hb hq0, (a4 z).2⟩, a5, a6, a7, a8⟩
end ZZK2
section ZZV
variable {K K1 K2 : PK} {g : Nat → Nat → Nat} {ty ty1 : Nat → Int32} {sz nd q : Nat}
theorem SkA.bx (hb : BdX K K1) (e : ty1 = ty) (h : SkA K g ty sz nd) : SkA K1 g ty1 sz nd := fun q hq hl => by
  subst e
  have hq0 := hb.old1 hq
  have hn : ¬ K.1 q = 0 := by rw [hq0]; decide
  obtain ⟨a1, a2, a3, a4, a5, a6, a7, a8, a9, a10, a11⟩ := h q hq0 hl
  have k0 : K1.2.1 0 q = K.2.1 0 q := hb.I hn (by decide)
  have k2 : K1.2.1 2 q = K.2.1 2 q := hb.I hn (by decide)
  unfold SkO
  rw [k0, k2, hb.C hn 0, hb.C hn 1, hb.C hn 2, hb.C hn 3]
  have kx : ∀ x : Nat, K.1 x = 1 → K1.1 x = 1 ∧ K1.2.1 0 x = K.2.1 0 x := fun x hx => ⟨hb.T hx (by decide), hb.I (by rw [hx]; decide) (by decide)⟩
  refine ⟨a1, a2, fun z x hx => ?_, fun z x y hx hy => ?_, fun z d hd => ?_, a6, a7, a8, a9, a10, fun z => ⟨(a11 z).1, fun x x1 x2 x3 => (a11 z).2 x (hb.old1 x1) x2 x3⟩⟩
  · obtain ⟨b1, b2, b3, b4⟩ := a3 z x hx
    rw [(kx x b3).2]
    exact ⟨b1, b2, (kx x b3).1, b4⟩
  · obtain ⟨b1, b2, b3, b4, b5⟩ := a4 z x y hx hy
    rw [(kx y b4.1).2]
    refine ⟨b1, b2, b3, ⟨(kx y b4.1).1, b4.2⟩, fun v hv => ?_⟩
    obtain ⟨c1, c2, c3⟩ := b5 v hv
    rw [(kx v c2).2]
    exact ⟨c1, (kx v c2).1, c3⟩
  · obtain ⟨b1, b2, b3, b4, b5, b6⟩ := a5 z d hd
    rw [(kx d b2.1).2]
    refine ⟨b1, ⟨(kx d b2.1).1, b2.2⟩, b3, fun x hx => ?_, b5, fun x hx => ?_⟩
    · obtain ⟨c1, c2⟩ := b4 x hx
      rw [(kx x c1).2]
      exact ⟨(kx x c1).1, c2⟩
    · obtain ⟨c1, c2⟩ := b6 x hx
      rw [(kx x c1).2]
      exact ⟨(kx x c1).1, c2⟩
end ZZV
section ZZO
variable {pb : PNb} {B B1 B2 : Nat → Nat → Int32} {K K1 : PK} {A A1 A2 : Nat → AS} {pd : Nat → Prop} {m sn lo cs cs1 cs2 hd t u t1 u1 t2 u2 nd sz vr c0 i : Nat} {as as1 as2 wt wf wt1 wf1 wt2 wf2 x k l : Int32} {sl : Nat → Nat} {os os1 os2 : List Nat} {S : Nat → Nat} {fi : Nat → Nat → Prop}
theorem OwC.bx {dr mq : Nat} (hb : BdX K K1) (hm : K.1 mq = 3) (hdr : ¬ K.1 dr = 0) (h : OwC K dr mq c0) : OwC K1 dr mq c0 := by
  obtain ⟨d, h1, h2, h3, h4⟩ := h
  exact ⟨d, (hb.C (by rw [hm]; decide) 5).trans h1, hb.T h2 (by decide), by rw [(hb.1 dr hdr).2.2.2.2.1]; exact h3, (hb.I (by rw [h2]; decide) (by decide)).trans h4⟩
end ZZO

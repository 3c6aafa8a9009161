/-! names: fits, fields, methods as judging asks for them -/
section GNE
variable {G : pT} {K K0 : PK} {g : Nat → Nat → Nat} {dr nd nm d e p q k u j m m2 n n2 np cp lm sz t c f i : Nat} {it jt rk itp : Nat → Nat} {V ro kd ty : Nat → Int32} {ab : Nat → Int64} {x r : Int32} {o : Option Nat}
/-- the type of a token -/
theorem Ty_at (hnd : nd ≤ 37) (h1 : Rd1 G K0 dr nd V ro sz) (h2 : TyX K0 dr nd V ro kd sz ty) (ht : t < sz) : (¬ ro t = 0 → ∃ c e : Nat, c < nd ∧ K0.2.2.2.2.1 dr c = some e ∧ (K0.2.1 18 e = 0 ∨ ro t = 1) ∧ (ty t = nI c ∨ (ty t = nI (64 + c) ∧ tkN kd sz 67 (nI (t + 1)) = 36 ∧ tkN kd sz 67 (nI (t + 2)) = 37))) ∧ (ro t = 0 → ((ty t = nI 60 ∨ (ty t = nI 124 ∧ tkN kd sz 67 (nI (t + 1)) = 36 ∧ tkN kd sz 67 (nI (t + 2)) = 37)) ∧ kd t = 13) ∨ ((ty t = nI 61 ∨ (ty t = nI 125 ∧ tkN kd sz 67 (nI (t + 1)) = 36 ∧ tkN kd sz 67 (nI (t + 2)) = 37)) ∧ kd t = 1) ∨ (ty t = nI 63 ∧ ¬ kd t = 13 ∧ ¬ kd t = 1)) := by
  obtain ⟨r, a1, a2, a3⟩ := h2 t ht
  refine ⟨fun z => ?_, fun z => ?_⟩
  · obtain ⟨c, e, b1, b2, b3, b4⟩ := h1.2 t ht z
    have er : r = nI c := FdX.uniq hnd (a1 z) b2
    refine ⟨c, e, b1, b3, ?_, ?_⟩
    · rcases b4 with b4 | b4
      · exact Or.inl b4
      · refine Or.inr (Classical.byContradiction fun y => b4 ?_)
        rw [if_neg y]
    · rcases a3 with a3 | ⟨a3, a4, a5, a6⟩
      · exact Or.inl (a3.trans er)
      · refine Or.inr ⟨?_, a5, a6⟩
        rw [a3, er]
        exact nI_add 64 c
  · rcases a2 z with ⟨y1, y2⟩ | ⟨y1, y2⟩ | ⟨y1, y2, y3⟩
    · refine Or.inl ⟨?_, y2⟩
      rcases a3 with a3 | ⟨a3, a4, a5, a6⟩
      · exact Or.inl (a3.trans y1)
      · exact Or.inr ⟨by rw [a3, y1]; rfl, a5, a6⟩
    · refine Or.inr (Or.inl ⟨?_, y2⟩)
      rcases a3 with a3 | ⟨a3, a4, a5, a6⟩
      · exact Or.inl (a3.trans y1)
      · exact Or.inr ⟨by rw [a3, y1]; rfl, a5, a6⟩
    · refine Or.inr (Or.inr ⟨?_, y2, y3⟩)
      rcases a3 with a3 | ⟨a3, a4, _⟩
      · exact a3.trans y1
      · exact absurd y1 a4
theorem Ty_R (hnd : nd ≤ 37) (h1 : Rd1 G K0 dr nd V ro sz) (h2 : TyX K0 dr nd V ro kd sz ty) : TyR ty nd sz := fun t ht => by
  obtain ⟨a, b⟩ := Ty_at hnd h1 h2 ht
  by_cases z : ro t = 0
  · rcases b z with ⟨y | ⟨y, _⟩, _⟩ | ⟨y | ⟨y, _⟩, _⟩ | ⟨y, _⟩
    · exact ⟨60, ⟨y, by decide⟩, by unfold TyV; omega⟩
    · exact ⟨124, ⟨y, by decide⟩, by unfold TyV; omega⟩
    · exact ⟨61, ⟨y, by decide⟩, by unfold TyV; omega⟩
    · exact ⟨125, ⟨y, by decide⟩, by unfold TyV; omega⟩
    · exact ⟨63, ⟨y, by decide⟩, by unfold TyV; omega⟩
  · obtain ⟨c, e, c1, _, _, c4 | ⟨c4, _⟩⟩ := a z
    · exact ⟨c, ⟨c4, by omega⟩, by unfold TyV; omega⟩
    · exact ⟨64 + c, ⟨c4, by omega⟩, by unfold TyV; omega⟩
theorem tkN_ty (h : TyR ty nd sz) (hs : sz ≤ 100000) : tkN ty sz 63 x = nI (tyN ty sz x) := by
  by_cases z : x < 0 ∨ nI sz ≤ x
  · rw [tkN_out z, tyN_out z]; rfl
  · obtain ⟨j, hj, hj2⟩ := nI_nn2 (x := x) (fun w => z (Or.inl w))
    subst hj
    have hi : j < sz := Classical.byContradiction fun w => z (Or.inr ((nI_leI (a := sz) (b := j) (by omega) (by omega)).mpr (by omega)))
    rw [tkN_in hi hs]
    exact (h.at hs hi).1
theorem ty_eq (h : TyR ty nd sz) (hs : sz ≤ 100000) (hnd : nd ≤ 37) {y : Int32} (e : tkN ty sz 63 x = tkN ty sz 63 y) : tyN ty sz x = tyN ty sz y := by
  rw [tkN_ty h hs, tkN_ty h hs] at e
  have a := (h.V (x := x) hs).lt hnd
  have b := (h.V (x := y) hs).lt hnd
  exact (nI_eq (by omega) (by omega)).mp e
/-- the layouts leave the methods as they were -/
theorem LyS.pml (h : LyS g K0 K) (hw : WPr G K0 g) (hm : K0.1 m = 3) (w : PmL G K0 m np itp) : PmL G K m np itp := by
  obtain ⟨lp, cp, a1, a2⟩ := w
  obtain ⟨y, y1, y2, y3, _⟩ := (hw.2.2.2 m hm).1
  have e : y = lp := Option.some.inj (y1.symm.trans a1)
  subst e
  exact ⟨y, cp, (h.C hm (by decide) (by decide) (by decide) 6).trans a1, h.ls (by rw [y3]; decide) (by decide) a2⟩
theorem LyS.owp (h : LyS g K0 K) (hw : WPr G K0 g) (hd : K0.1 d = 4) (w : OwP K0 d x o) : OwP K d x o := by
  obtain ⟨lm, n, cp, it, h1, h2, h3⟩ := hw.ml hd
  have k1 : K.2.2.1 9 d = some lm := (h.C hd (by decide) (by decide) (by decide) 9).trans h1
  have k2 : LsC G K lm 3 n it cp := h.ls (by rw [h3]; decide) (by decide) h2
  have k6 : ∀ i : Nat, i < n → K.2.1 6 (it i) = K0.2.1 6 (it i) := fun i hi => h.I (h2.T hi) (by decide) (by decide) (by decide) (by decide) (by decide)
  have hn := h2.2.2.1
  cases o with
  | none =>
    have z := w.no h1 h2
    exact ⟨lm, n, it, k1, LsC.sz k2, hn, LsC.el k2, Or.inl ⟨Eq.refl _, fun i hi => by rw [k6 i hi]; exact z i hi⟩⟩
  | some m =>
    obtain ⟨l9, n9, j9, b1, b2, b3, b4, b5⟩ := w
    have e1 : lm = l9 := Option.some.inj (h1.symm.trans b1)
    subst e1
    have e2 : n = n9 := (nI_eq (by omega) (by omega)).mp ((LsC.sz h2).symm.trans b2)
    subst e2
    have e3 : ∀ i : Nat, i < n → it i = j9 i := fun i hi => by
      obtain ⟨r1, x1, x2⟩ := LsC.el h2 i hi
      obtain ⟨r2, y1, y2⟩ := b4 i hi
      have er : r1 = r2 := Option.some.inj (x1.symm.trans y1)
      subst er
      exact Option.some.inj (x2.symm.trans y2)
    rcases b5 with ⟨z, _⟩ | ⟨i, z1, z2, z3, z4⟩
    · cases z
    · refine ⟨lm, n, it, k1, LsC.sz k2, hn, LsC.el k2, Or.inr ⟨i, z1, by rw [z2, e3 i z1], ?_, fun i2 hi2 => ?_⟩⟩
      · rw [k6 i z1, e3 i z1]; exact z3
      · rw [k6 i2 (by omega), e3 i2 (by omega)]; exact z4 i2 hi2
theorem LyS.owb (h : LyS g K0 K) (hw : WPr G K0 g) (hd : K0.1 d = 4) (w : OwP K d x o) : OwP K0 d x o := by
  obtain ⟨o2, z⟩ := hw.own9 (x := x) hd
  have e := (h.owp hw hd z).uniq w
  rw [← e]; exact z
theorem LyS.nep (h : LyS g K0 K) (hw : WPr G K0 g) : ∀ {n d : Nat}, K0.1 d = 4 → NeP K0 x n d m → NeP K x n d m
  | 0, _, _, w => w.elim
  | n + 1, d, hd, w => by
    rcases w with w | ⟨w1, p, w2, w3⟩
    · exact Or.inl (h.owp hw hd w)
    · exact Or.inr ⟨h.owp hw hd w1, p, (h.C hd (by decide) (by decide) (by decide) 10).trans w2, LyS.nep h hw ((hw.2.2.1 d hd).2.2.2.2.1 p w2) w3⟩
theorem LyS.neb (h : LyS g K0 K) (hw : WPr G K0 g) : ∀ {n d : Nat}, K0.1 d = 4 → NeP K x n d m → NeP K0 x n d m
  | 0, _, _, w => w.elim
  | n + 1, d, hd, w => by
    rcases w with w | ⟨w1, p, w2, w3⟩
    · exact Or.inl (h.owb hw hd w)
    · have w4 : K0.2.2.1 10 d = some p := (h.C hd (by decide) (by decide) (by decide) 10).symm.trans w2
      exact Or.inr ⟨h.owb hw hd w1, p, w4, LyS.neb h hw ((hw.2.2.1 d hd).2.2.2.2.1 p w4) w3⟩
theorem LyP.all9 : ∀ {f1 f2 d n1 n2 : Nat} {i1 i2 : Nat → Nat}, LyP G K f1 d n1 i1 → LyP G K f2 d n2 i2 → ∀ i : Nat, i < n1 → i1 i = i2 i
  | 0, _, _, _, _, _, _, h, _, _, _ => h.elim
  | _ + 1, 0, _, _, _, _, _, _, h, _, _ => h.elim
  | f1 + 1, f2 + 1, d, n1, n2, i1, i2, h, h2, i, hi => by
    obtain ⟨np, nf, ip, jf, a1, a2, a3, a4, a5⟩ := h
    obtain ⟨np2, nf2, ip2, jf2, b1, b2, b3, b4, b5⟩ := h2
    obtain ⟨e1, e2⟩ := a2.uniq b2
    have e3 : np = np2 ∧ ∀ i : Nat, i < np → ip i = ip2 i := by
      rcases a1 with ⟨a1, a6⟩ | ⟨p, a1, a6⟩
      · rcases b1 with ⟨_, b6⟩ | ⟨p2, b1, _⟩
        · exact ⟨by omega, fun i hi => absurd hi (by omega)⟩
        · rw [a1] at b1; cases b1
      · rcases b1 with ⟨b1, _⟩ | ⟨p2, b1, b6⟩
        · rw [a1] at b1; cases b1
        · have e : p = p2 := Option.some.inj (a1.symm.trans b1)
          subst e
          exact ⟨a6.fun9 b6, LyP.all9 a6 b6⟩
    obtain ⟨e3, e4⟩ := e3
    subst e3
    by_cases z : i < np
    · rw [a4 i z, b4 i z]; exact e4 i z
    · have z1 := a5 (i - np) (by omega)
      have z2 := b5 (i - np) (by omega)
      rw [show np + (i - np) = i by omega] at z1 z2
      rw [z1, z2]; exact e2 (i - np) (by omega)
/-- a layout begins with those of the classes above -/
theorem LyP.pre : ∀ {n f1 f2 d e n1 n2 : Nat} {i1 i2 : Nat → Nat}, AnP K n d e → LyP G K f1 d n1 i1 → LyP G K f2 e n2 i2 → n2 ≤ n1 ∧ ∀ i : Nat, i < n2 → i1 i = i2 i
  | 0, _, _, _, _, _, _, _, _, h, _, _ => h.elim
  | _ + 1, 0, _, _, _, _, _, _, _, _, h, _ => h.elim
  | n + 1, f1 + 1, f2, d, e, n1, n2, i1, i2, h, hl, h2 => by
    obtain ⟨p, p1, p2⟩ := h
    obtain ⟨np, nf, ip, jf, a1, a2, a3, a4, a5⟩ := hl
    rcases a1 with ⟨a1, _⟩ | ⟨p9, a1, a6⟩
    · rw [p1] at a1; cases a1
    · have ep : p = p9 := Option.some.inj (p1.symm.trans a1)
      subst ep
      rcases p2 with p2 | p2
      · subst p2
        have en := a6.fun9 h2
        subst en
        have ei := LyP.all9 a6 h2
        exact ⟨by omega, fun i hi => (a4 i hi).trans (ei i hi)⟩
      · obtain ⟨z1, z2⟩ := LyP.pre p2 a6 h2
        exact ⟨by omega, fun i hi => (a4 i (by omega)).trans (z2 i hi)⟩
end GNE

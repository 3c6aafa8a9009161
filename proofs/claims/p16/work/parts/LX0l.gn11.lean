/-! names: layouts, known methods, results: all of them -/
def SlA (G : pT) (K0 K : PK) (dr k : Nat) : Prop := ∀ j : Nat, j < k → ∀ d : Nat, K0.1 d = 4 → K0.2.2.2.2.1 dr j = some d → ∃ (ll n cp f : Nat) (it : Nat → Nat), K0.2.2.1 11 d = some ll ∧ LsC G K ll 1 n it cp ∧ LyP G K0 f d n it ∧ ∀ i : Nat, i < n → K.2.1 5 (it i) = nI i
def KnE (G : pT) (K0 : PK) (dr nd j d x : Nat) : Prop := ∃ u e : Nat, u < nd ∧ K0.2.2.2.2.1 dr u = some e ∧ (u = j ∨ bitL (K0.2.2.2.1 d) u) ∧ MeI G K0 e x
def KnA (G : pT) (K0 K : PK) (dr nd k : Nat) : Prop := ∀ j : Nat, j < k → ∀ d : Nat, K0.1 d = 4 → K0.2.2.2.2.1 dr j = some d → ∃ (lk n cp : Nat) (it : Nat → Nat), K0.2.2.1 12 d = some lk ∧ LsC G K lk 3 n it cp ∧ ∀ i : Nat, i < n → KnE G K0 dr nd j d (it i)
def RsA (G : pT) (K0 K : PK) (dr : Nat) (ty : Nat → Int32) (sz k : Nat) : Prop := ∀ j : Nat, j < k → ∀ d x : Nat, K0.2.2.2.2.1 dr j = some d → MeI G K0 d x → K.2.1 10 x = tkN ty sz 63 (K0.2.1 8 x)
section GNB
variable {G : pT} {K K0 K1 : PK} {g : Nat → Nat → Nat} {d dh dr nd k j q x u n m n1 ll lk lm cp f sz : Nat} {it jt it0 it1 : Nat → Nat} {ty : Nat → Int32} {v : Int32} {P : Nat → Prop}
theorem shQ_f (h : ∀ i : Nat, i < u → it i = jt (n - u + i)) (hx : x = jt (n - (u + 1))) (hu : u + 1 ≤ n) : ∀ i : Nat, i < u + 1 → shQ it x i = jt (n - (u + 1) + i) := fun i hi => by
  unfold shQ
  by_cases e : i = 0
  · rw [if_pos e, e]; exact hx
  · rw [if_neg e, h (i - 1) (by omega)]
    rw [show n - u + (i - 1) = n - (u + 1) + i by omega]
theorem shQ_b (h : ∀ i : Nat, i < m → it (u + i) = jt i) : ∀ i : Nat, i < m → shQ it x (u + 1 + i) = jt i := fun i hi => by
  unfold shQ
  rw [if_neg (by omega), show u + 1 + i - 1 = u + i by omega]
  exact h i hi
theorem upQ_all (h : ∀ i : Nat, i < n → P (it i)) (hx : P x) : ∀ i : Nat, i < n + 1 → P (upQ it n x i) := fun i hi => by
  unfold upQ
  by_cases e : i = n
  · rw [if_pos e]; exact hx
  · rw [if_neg e]; exact h i (by omega)
theorem WPr.ow11 (hw : WPr G K0 g) (hd : K0.1 d = 4) (hl : K0.2.2.1 11 d = some ll) : g 3 ll = 4 ∧ g 4 ll = d := by
  obtain ⟨y, y1, _, y3, y4⟩ := (hw.2.2.1 d hd).2.2.1
  have e : y = ll := Option.some.inj (y1.symm.trans hl)
  subst e
  exact ⟨y3, y4⟩
theorem WPr.ow12 (hw : WPr G K0 g) (hd : K0.1 d = 4) (hl : K0.2.2.1 12 d = some lk) : g 3 lk = 5 ∧ g 4 lk = d := by
  obtain ⟨y, y1, _, y3, y4⟩ := (hw.2.2.1 d hd).2.2.2.1
  have e : y = lk := Option.some.inj (y1.symm.trans hl)
  subst e
  exact ⟨y3, y4⟩
theorem SlA.lay (h : SlA G K0 K dr k) (hw : WPr G K0 g) (hr : DcR K0 g dr nd) (hk : k < nd) (hfu : FuO G K0) (hu : LyU G ll K K1 n it) (hy : ∃ f : Nat, LyP G K0 f d n it) (hc : LsC G K1 ll 1 n it cp) (he : K0.2.2.2.2.1 dr k = some d) (hl : K0.2.2.1 11 d = some ll) (hg4 : g 4 ll = d) (hnd : nd ≤ 37) : SlA G K0 K1 dr (k + 1) := fun j hj d2 hd2 he2 => by
  obtain ⟨f, hy⟩ := hy
  obtain ⟨h1, h2, h3, h4, h5⟩ := hu
  have hd : K0.1 d = 4 := by
    obtain ⟨dz, z1, z2, _⟩ := hr k hk
    rw [he] at z1; cases z1; exact z2
  by_cases e : j = k
  · subst e
    have ed : d = d2 := Option.some.inj (he.symm.trans he2)
    subst ed
    exact ⟨ll, n, cp, f, it, hl, hc, hy, h4⟩
  · obtain ⟨l2, n2, c2, f2, it2, a1, a2, a3, a4⟩ := h j (by omega) d2 hd2 he2
    have hne : ¬ l2 = ll := fun z => by
      have z1 := (hw.ow11 hd2 a1).2
      rw [z, hg4] at z1
      exact e (hr.uniq (by omega) (by omega) (by omega) hk he2 (by rw [← z1]; exact he))
    refine ⟨l2, n2, c2, f2, it2, a1, h1 l2 1 n2 c2 it2 (by decide) hne a2, a3, fun i hi => ?_⟩
    by_cases z : ∃ b : Nat, b < n ∧ it b = it2 i
    · obtain ⟨b, z1, z2⟩ := z
      have z3 : b = i := LyP.pos (fun d p h1 h2 => (hw.2.2.1 d h1).2.2.2.2.1 p h2) hfu hd hd2 hy a3 z1 hi z2
      rw [← z2, h4 b z1, z3]
    · rw [h3 (it2 i) (a2.T hi) (fun b hb y => z ⟨b, hb, y⟩)]
      exact a4 i hi
theorem SlA.lyt (h : SlA G K0 K dr k) (hw : WPr G K0 g) (_hr : DcR K0 g dr nd) (_hz : LyS g K0 K) (hu : LyT G lk K K1) (hg : g 3 lk = 5) : SlA G K0 K1 dr k := fun j hj d2 hd2 he2 => by
  obtain ⟨l2, n2, c2, f2, it2, a1, a2, a3, a4⟩ := h j hj d2 hd2 he2
  have hne : ¬ l2 = lk := fun z => by
    have z1 := (hw.ow11 hd2 a1).1
    rw [z, hg] at z1
    exact absurd z1 (by decide)
  exact ⟨l2, n2, c2, f2, it2, a1, hu.1 l2 1 n2 c2 it2 (by decide) hne a2, a3, fun i hi => (hu.2.2 (it2 i) (a2.T hi)).2.trans (a4 i hi)⟩
theorem SlA.kI10 (h : SlA G K0 K dr k) : SlA G K0 (kI K 10 q v) dr k := fun j hj d2 hd2 he2 => by
  obtain ⟨l2, n2, c2, f2, it2, a1, a2, a3, a4⟩ := h j hj d2 hd2 he2
  exact ⟨l2, n2, c2, f2, it2, a1, LsC.kI (by decide) a2, a3, fun i hi => (kI_of (by decide)).trans (a4 i hi)⟩
theorem KnA.lyu (h : KnA G K0 K dr nd k) (hw : WPr G K0 g) (_hr : DcR K0 g dr nd) (hu : LyU G ll K K1 n it) (hg : g 3 ll = 4) : KnA G K0 K1 dr nd k := fun j hj d2 hd2 he2 => by
  obtain ⟨l2, n2, c2, it2, a1, a2, a3⟩ := h j hj d2 hd2 he2
  have hne : ¬ l2 = ll := fun z => by
    have z1 := (hw.ow12 hd2 a1).1
    rw [z, hg] at z1
    exact absurd z1 (by decide)
  exact ⟨l2, n2, c2, it2, a1, hu.1 l2 3 n2 c2 it2 (by decide) hne a2, a3⟩
theorem KnA.lyt (h : KnA G K0 K dr nd k) (hw : WPr G K0 g) (hr : DcR K0 g dr nd) (hk : k < nd ∧ nd ≤ 37) (hu : LyT G lk K K1) (he : K0.2.2.2.2.1 dr k = some d) (hg4 : g 4 lk = d) : KnA G K0 K1 dr nd k := fun j hj d2 hd2 he2 => by
  obtain ⟨l2, n2, c2, it2, a1, a2, a3⟩ := h j hj d2 hd2 he2
  have hne : ¬ l2 = lk := fun z => by
    have z1 := (hw.ow12 hd2 a1).2
    rw [z, hg4] at z1
    have z2 := hr.uniq (k := j) (j := k) (by omega) (by omega) (by omega) hk.1 he2 (by rw [← z1]; exact he)
    omega
  exact ⟨l2, n2, c2, it2, a1, hu.1 l2 3 n2 c2 it2 (by decide) hne a2, a3⟩
theorem KnA.suc (h : KnA G K0 K dr nd k) (he : K0.2.2.2.2.1 dr k = some d) (hl : K0.2.2.1 12 d = some lk) (hc : LsC G K lk 3 n it cp) (hk : ∀ i : Nat, i < n → KnE G K0 dr nd k d (it i)) : KnA G K0 K dr nd (k + 1) := fun j hj d2 hd2 he2 => by
  by_cases e : j = k
  · subst e
    have ed : d = d2 := Option.some.inj (he.symm.trans he2)
    subst ed
    exact ⟨lk, n, cp, it, hl, hc, hk⟩
  · exact h j (by omega) d2 hd2 he2
theorem KnA.kI10 (h : KnA G K0 K dr nd k) : KnA G K0 (kI K 10 q v) dr nd k := fun j hj d2 hd2 he2 => by
  obtain ⟨l2, n2, c2, it2, a1, a2, a3⟩ := h j hj d2 hd2 he2
  exact ⟨l2, n2, c2, it2, a1, LsC.kI (by decide) a2, a3⟩
theorem KnA.to (e : k = m) (h : KnA G K0 K dr nd k) : KnA G K0 K dr nd m := by rw [← e]; exact h
theorem KnE.all (h : ∀ i : Nat, i < n → KnE G K0 dr nd j d (it i)) (hq : ∀ i : Nat, i < n1 → (∃ b : Nat, b < n ∧ it b = it1 i) ∨ MeI G K0 dh (it1 i)) (hu : ∃ u : Nat, u < nd ∧ K0.2.2.2.2.1 dr u = some dh ∧ (u = j ∨ bitL (K0.2.2.2.1 d) u)) : ∀ i : Nat, i < n1 → KnE G K0 dr nd j d (it1 i) := fun i hi => by
  rcases hq i hi with ⟨b, b1, b2⟩ | z
  · rw [← b2]; exact h b b1
  · obtain ⟨u, u1, u2, u3⟩ := hu
    exact ⟨u, dh, u1, u2, u3, z⟩
theorem MeI.T3 (h : MeI G K0 d x) : K0.1 x = 3 := by
  obtain ⟨lm, n, cp, a, it, _, h2, h3, h4⟩ := h
  rw [← h4]; exact h2.T h3
theorem RsA.lyu (h : RsA G K0 K dr ty sz k) (hz : LyS g K0 K) (hu : LyU G ll K K1 n it) : RsA G K0 K1 dr ty sz k := fun j hj d2 y he hm => (hu.2.1 y (hz.T hm.T3 (by decide))).2.trans (h j hj d2 y he hm)
theorem RsA.lyt (h : RsA G K0 K dr ty sz k) (hz : LyS g K0 K) (hu : LyT G ll K K1) : RsA G K0 K1 dr ty sz k := fun j hj d2 y he hm => (hu.2.1 y (hz.T hm.T3 (by decide))).2.trans (h j hj d2 y he hm)
theorem RsA.put (h : RsA G K0 K dr ty sz k) (hv : v = tkN ty sz 63 (K0.2.1 8 q)) : RsA G K0 (kI K 10 q v) dr ty sz k := fun j hj d2 y he hm => by
  by_cases e : y = q
  · subst e; rw [kI_eq]; exact hv
  · rw [kI_ne e]; exact h j hj d2 y he hm
theorem Rs_put (h : ∀ a : Nat, a < u → K.2.1 10 (it0 a) = tkN ty sz 63 (K0.2.1 8 (it0 a))) (hv : v = tkN ty sz 63 (K0.2.1 8 (it0 u))) : ∀ a : Nat, a < u + 1 → (kI K 10 (it0 u) v).2.1 10 (it0 a) = tkN ty sz 63 (K0.2.1 8 (it0 a)) := fun a ha => by
  by_cases e : it0 a = it0 u
  · rw [e, kI_eq]; exact hv
  · rw [kI_ne e]
    exact h a (by
      by_cases z : a = u
      · rw [z] at e; exact absurd rfl e
      · omega)
theorem RsA.suc (h : RsA G K0 K dr ty sz k) (he : K0.2.2.2.2.1 dr k = some d) (h9 : K0.2.2.1 9 d = some lm) (hl : LsC G K0 lm 3 n it0 cp) (hr : ∀ a : Nat, a < n → K.2.1 10 (it0 a) = tkN ty sz 63 (K0.2.1 8 (it0 a))) : RsA G K0 K dr ty sz (k + 1) := fun j hj d2 y he2 hm => by
  by_cases e : j = k
  · subst e
    have ed : d = d2 := Option.some.inj (he.symm.trans he2)
    subst ed
    obtain ⟨l2, n2, c2, a, it2, m1, m2, m3, m4⟩ := hm
    have el : lm = l2 := Option.some.inj (h9.symm.trans m1)
    subst el
    obtain ⟨en, ei⟩ := hl.same m2
    subst en
    rw [← m4, ← ei a m3]
    exact hr a m3
  · exact h j (by omega) d2 y he2 hm
end GNB

/-- those that q owns are no higher than B -/
def MbO (K : PK) (g : Nat → Nat → Nat) (q B lo hi nd : Nat) : Prop := ∀ x : Nat, K.1 x = 1 → 1 ≤ g 0 x → g 1 x = q + 1 → g 0 x ≤ B ∧ lo ≤ rS (g 2 x) ∧ rE (g 2 x) ≤ hi ∧ rD (g 2 x) ≤ nd
/-- a list's first one -/
def Hd (K : PK) (g : Nat → Nat → Nat) (q lf : Nat) : Prop := K.2.2.1 lf q = none ∨ ∃ x : Nat, K.2.2.1 lf q = some x ∧ K.1 x = 1 ∧ 1 ≤ g 0 x ∧ g 1 x = q + 1
/-- a node q that is not done and gets a list in its part lf -/
def LsN (K K2 : PK) (g g2 : Nat → Nat → Nat) (q lf B lo hi nd : Nat) : Prop := NwS K K2 g g2 ∧ K.1 q = 0 ∧ K2.1 q = 1 ∧ g2 0 q = 0 ∧ MbO K2 g2 q B lo hi nd ∧ Hd K2 g2 q lf
section BT5
variable {K K1 K2 K3 : PK} {g g1 g2 g3 : Nat → Nat → Nat} {q r x y O k L B B2 f lf lo hi hi2 nd : Nat}
theorem LsN.of (h : NwS K K2 g g2) (hq0 : K.1 q = 0) (hT : K2.1 q = 1) (hg : g2 0 q = 0) (hn : NoO K2 g2 q) (hb : K2.2.2.1 lf q = none) : LsN K K2 g g2 q lf B lo hi nd := ⟨h, hq0, hT, hg, fun x h1 h2 h3 => absurd h3 (hn x h1 h2), Or.inl hb⟩
theorem MbO.call (h : MbO K1 g1 q B lo hi nd) (hr : NwR K1 K2 g1 g2 r O k L) (hq : K1.1 q = 1) (hB : (B ≤ B2 ∧ hi ≤ hi2) ∧ (O = q + 1 → L ≤ B2 ∧ lo ≤ rS k ∧ rE k ≤ hi2 ∧ rD k ≤ nd)) : MbO K2 g2 q B2 lo hi2 nd := fun x hx hl ho => by
  obtain ⟨r1, r2, r3, r4⟩ := hr
  by_cases e : K1.1 x = 0
  · by_cases z : x = r
    · subst z; rw [r3.2.2.2.2.1] at ho; have z9 := hB.2 ho; rw [r3.2.2.2.2.2.1]; exact ⟨Nat.le_trans r3.2.2.2.1 z9.1, z9.2⟩
    · have w := (r4 x e (by rw [hx]; decide)).2 z q ho
      rw [hq] at w
      exact absurd w (by decide)
  · have e1 := (r2.1 x e).1
    rw [r2.2 x e] at hl ho ⊢
    have z9 := h x (e1.symm.trans hx) hl ho
    rw [r2.2 x e]
    exact ⟨Nat.le_trans z9.1 hB.1.1, z9.2.1, Nat.le_trans z9.2.2.1 hB.1.2, z9.2.2.2⟩
theorem Hd.call (h : Hd K1 g1 q lf) (hr : NwR K1 K2 g1 g2 r O k L) (hq : K1.1 q = 1) : Hd K2 g2 q lf := by
  obtain ⟨r1, r2, r3, r4⟩ := hr
  obtain ⟨s1, s2, s3, -, -, -⟩ := r2.1 q (by rw [hq]; decide)
  rcases h with w | ⟨x, w1, w2, w3, w4⟩
  · exact Or.inl ((s3 lf).trans w)
  · have hx0 : ¬ K1.1 x = 0 := by rw [w2]; decide
    exact Or.inr ⟨x, (s3 lf).trans w1, (r2.1 x hx0).1.trans w2, by rw [r2.2 x hx0]; exact w3, by rw [r2.2 x hx0]; exact w4⟩
/-- one more was read -/
theorem LsN.call (h : LsN K K2 g g2 q lf B lo hi nd) (hr : NwR K2 K3 g2 g3 r (q + 1) k L) (hB : (B ≤ B2 ∧ hi ≤ hi2) ∧ L ≤ B2 ∧ lo ≤ rS k ∧ rE k ≤ hi2 ∧ rD k ≤ nd) : LsN K K3 g g3 q lf B2 lo hi2 nd := by
  obtain ⟨h1, h2, h3, h4, h5, h6⟩ := h
  have hq0 : ¬ K2.1 q = 0 := by rw [h3]; decide
  exact ⟨NwS.call h1 hr (fun o ho => by have z : o = q := by omega
                                        rw [z]; exact h2), h2, (hr.2.1.1 q hq0).1.trans h3, (hr.2.1.2 q hq0 0).trans h4, MbO.call h5 hr h3 ⟨hB.1, fun _ => hB.2⟩, Hd.call h6 hr h3⟩
/-- something else was read -/
theorem LsN.call0 (h : LsN K K2 g g2 q lf B lo hi nd) (hr : NwR K2 K3 g2 g3 r 0 k L) : LsN K K3 g g3 q lf B lo hi nd := by
  obtain ⟨h1, h2, h3, h4, h5, h6⟩ := h
  have hq0 : ¬ K2.1 q = 0 := by rw [h3]; decide
  exact ⟨NwS.call h1 hr (fun o ho => absurd ho (by omega)), h2, (hr.2.1.1 q hq0).1.trans h3, (hr.2.1.2 q hq0 0).trans h4, MbO.call h5 hr h3 ⟨⟨Nat.le_refl _, Nat.le_refl _⟩, fun z => absurd z (by omega)⟩, Hd.call h6 hr h3⟩
/-- it is the first -/
theorem LsN.first (h : LsN K K2 g g2 q lf B lo hi nd) (hx : K2.1 x = 1 ∧ 1 ≤ g2 0 x ∧ g2 1 x = q + 1) : LsN K (kC K2 lf q (some x)) g g2 q lf B lo hi nd := by
  obtain ⟨h1, h2, h3, h4, h5, h6⟩ := h
  exact ⟨NwS.put h1 h2 h4, h2, h3, h4, h5, Or.inr ⟨x, kC_eq, hx⟩⟩
/-- it comes behind y -/
theorem LsN.next (h : LsN K K2 g g2 q lf B lo hi nd) (hlf : ¬ lf = 4) (hy : K.1 y = 0 ∧ K2.1 y = 1 ∧ 1 ≤ g2 0 y ∧ g2 1 y = q + 1) (hx : K2.1 x = 1 ∧ 1 ≤ g2 0 x ∧ g2 1 x = q + 1) (hr : g2 2 y < g2 2 x) (hr2 : rE (g2 2 y) ≤ rS (g2 2 x)) : LsN K (kC K2 4 y (some x)) g g2 q lf B lo hi nd := by
  obtain ⟨⟨a1, a2, a3⟩, h2, h3, h4, h5, h6⟩ := h
  refine ⟨⟨WN.next a1 hy.2.1 hy.2.2.1 ⟨hx.1, hx.2.1, hx.2.2.trans hy.2.2.2.symm, hr, by rw [hy.2.2.2]; omega, hr2⟩, ⟨fun p hp => ?_, a2.2⟩, a3⟩, h2, h3, h4, h5, ?_⟩
  · have hpy : ¬ p = y := fun z => hp (by rw [z]; exact hy.1)
    obtain ⟨b1, b2, b3, b4, b5, b6⟩ := a2.1 p hp
    exact ⟨b1, b2, fun f => (kC_ne hpy).trans (b3 f), b4, b5, b6⟩
  · rcases h6 with w | ⟨z, w1, w2⟩
    · exact Or.inl ((kC_of hlf).trans w)
    · exact Or.inr ⟨z, (kC_of hlf).trans w1, w2⟩
theorem LsN.put {v : Option Nat} (h : LsN K K2 g g2 q lf B lo hi nd) (hf : ¬ lf = f) : LsN K (kC K2 f q v) g g2 q lf B lo hi nd := by
  obtain ⟨h1, h2, h3, h4, h5, h6⟩ := h
  refine ⟨NwS.put h1 h2 h4, h2, h3, h4, h5, ?_⟩
  rcases h6 with w | ⟨z, w1, w2⟩
  · exact Or.inl ((kC_of hf).trans w)
  · exact Or.inr ⟨z, (kC_of hf).trans w1, w2⟩
theorem LsN.puti {v : Int32} (h : LsN K K2 g g2 q lf B lo hi nd) (hf0 : ¬ 0 = f) : LsN K (kI K2 f q v) g g2 q lf B lo hi nd := by
  obtain ⟨h1, h2, h3, h4, h5, h6⟩ := h
  exact ⟨NwS.puti h1 h2 h4 hf0, h2, h3, h4, h5, h6⟩
/-- it is done -/
theorem LsN.done (h : LsN K K1 g g1 q lf B lo hi nd) (hB : B < L) (hOw : ∀ x : Nat, lo ≤ rS x → rE x ≤ hi → rD x ≤ nd → Owi (K1.2.1 0 q) k x) (hk : Itv k ∧ IvK (K1.2.1 0 q) k) (hs : Shp (K1.2.1 0 q) (fun f => K1.2.2.1 f q)) (hls : ∀ f : Nat, Lsf (K1.2.1 0 q) f → f = lf) (hc : ∀ f x : Nat, f ≤ 3 → ¬ f = lf → K1.2.2.1 f q = some x → K1.1 x = 1 ∧ 1 ≤ g1 0 x ∧ g1 0 x < L) (hx : K1.2.2.1 4 q = none) (hkc : ∀ f x : Nat, f ≤ 3 → K1.2.2.1 f q = some x → Kch (K1.2.1 0 q) f (K1.2.1 0 x) k (g1 2 x)) (hO : ∀ o : Nat, O = o + 1 → K.1 o = 1 ∧ g 0 o = 0 ∧ ¬ K.2.1 0 o = 32) : NwR K K1 g (gset g1 q L O k) q O k L := by
  obtain ⟨h1, h2, h3, h4, h5, h6⟩ := h
  refine NwS.done h1 h2 h3 h4 (by omega) hk hs (fun f x hf hx => ?_) hx (fun x a1 a2 a3 => (by have z := h5 x a1 a2 a3; exact ⟨by omega, hOw _ z.2.1 z.2.2.1 z.2.2.2⟩)) (fun o ho => ⟨(hO o ho).1, fun z => (by rw [(hO o ho).2.1] at z; omega), fun z => absurd z (hO o ho).2.2⟩)
  have hkx := hkc f x hf hx
  by_cases e : f = lf
  · subst e
    rcases h6 with w | ⟨y, w1, w2, w3, w4⟩
    · rw [w] at hx; cases hx
    · rw [w1] at hx; cases hx
      have z := h5 _ w2 w3 w4
      exact ⟨w2, w3, by omega, fun _ => w4, hkx⟩
  · obtain ⟨c1, c2, c3⟩ := hc f x hf e hx
    exact ⟨c1, c2, c3, fun z => absurd (hls f z) e, hkx⟩
/-- a catch is done -/
theorem NwS.done35 (h : NwS K K1 g g1) (hq0 : K.1 q = 0) (hq : K1.1 q = 1) (h0 : g1 0 q = 0) (hL : 1 ≤ L) (hk : Itv k ∧ IvK (K1.2.1 0 q) k) (hs : Shp (K1.2.1 0 q) (fun f => K1.2.2.1 f q)) (hls : ∀ f : Nat, ¬ Lsf (K1.2.1 0 q) f) (hc : ∀ f x : Nat, f ≤ 3 → K1.2.2.1 f q = some x → K1.1 x = 1 ∧ 1 ≤ g1 0 x ∧ g1 0 x < L) (hx : K1.2.2.1 4 q = none) (hm : NoO K1 g1 q) (hkc : ∀ f x : Nat, f ≤ 3 → K1.2.2.1 f q = some x → Kch (K1.2.1 0 q) f (K1.2.1 0 x) k (g1 2 x)) (h35 : K1.2.1 0 q = 35) (hO : ∀ o : Nat, O = o + 1 → K.1 o = 1 ∧ g 0 o = 0) : NwR K K1 g (gset g1 q L O k) q O k L :=
  NwS.done h hq0 hq h0 hL hk hs (fun f x hf hx => ⟨(hc f x hf hx).1, (hc f x hf hx).2.1, (hc f x hf hx).2.2, fun z => absurd z (hls f), hkc f x hf hx⟩) hx (fun x h1 h2 h3 => absurd h3 (hm x h1 h2)) (fun o ho => ⟨(hO o ho).1, fun z => (by rw [(hO o ho).2] at z; omega), fun _ => h35⟩)
theorem Lsf.k21 {k9 : Int32} (hk : k9 = 21) : Lsf k9 f → f = 0 := fun z => by
  subst hk
  rcases z with ⟨_, z⟩ | ⟨z | z | z, _⟩
  · exact z
  · exact absurd z (by decide)
  · exact absurd z (by decide)
  · exact absurd z (by decide)
theorem Lsf.k32 {k9 : Int32} (hk : k9 = 32) : Lsf k9 f → f = 1 := fun z => by
  subst hk
  rcases z with ⟨z, _⟩ | ⟨_, z⟩
  · exact absurd z (by decide)
  · exact z
theorem Owi.k21 {k9 : Int32} (hk : k9 = 21) {x : Nat} (h : rS k + 1 ≤ lo ∧ hi + 1 ≤ rE k ∧ nd ≤ rD k) : lo ≤ rS x → rE x ≤ hi → rD x ≤ nd → Owi k9 k x := fun a b c => by
  subst hk
  exact ⟨(fun _ => (by omega)), (fun z => absurd z (by decide)), (fun z => absurd z (by decide))⟩
theorem Owi.k32 {k9 : Int32} (hk : k9 = 32) {x : Nat} (h : rM k ≤ lo ∧ hi ≤ rN k ∧ nd ≤ rD k) : lo ≤ rS x → rE x ≤ hi → rD x ≤ nd → Owi k9 k x := fun a b c => by
  subst hk
  exact ⟨(fun z => absurd z (by decide)), (fun _ => (by omega)), (fun z => absurd z (by decide))⟩
theorem Shp.k21 {k9 : Int32} {C : Nat → Option Nat} (hk : k9 = 21) : Shp k9 C := by
  subst hk
  exact ⟨fun z => absurd z (by decide), fun z => absurd z (by decide), fun z => absurd z (by decide), fun z => absurd z (by decide), fun z => absurd z (by decide)⟩
theorem Shp.k32 {k9 : Int32} {C : Nat → Option Nat} (hk : k9 = 32) (h : ¬ C 0 = none) : Shp k9 C := by
  subst hk
  exact ⟨fun _ => h, fun z => absurd z (by decide), fun z => absurd z (by decide), fun z => absurd z (by decide), fun z => absurd z (by decide)⟩
end BT5

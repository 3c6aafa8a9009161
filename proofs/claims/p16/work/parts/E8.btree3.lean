section BT3
variable {K K1 K2 : PK} {g g1 g2 : Nat → Nat → Nat} {q r x O k L f : Nat} {a b c : Int32}
/-- nobody's owner is q -/
def NoO (K : PK) (g : Nat → Nat → Nat) (q : Nat) : Prop := ∀ x : Nat, K.1 x = 1 → 1 ≤ g 0 x → ¬ g 1 x = q + 1
theorem NoO.new (h : WN K1 g1) (hq : K1.1 q = 0) : NoO (mkN K1 q a b c) (gset g1 q 0 0 0) q := fun x hx hl ho => by
  by_cases z : x = q
  · subst z; rw [gset_0] at hl; omega
  · rw [gset_ne z] at hl ho
    have hx1 : K1.1 x = 1 := (mkN_ne z).symm.trans hx
    have hw := ((h x hx1 hl).2.2.2.2 q ho).1
    rw [hq] at hw
    exact absurd hw (by decide)
theorem NoO.call (h : NoO K1 g1 q) (hr : NwR K1 K2 g1 g2 r O k L) (hq : K1.1 q = 1) (hO : ¬ O = q + 1) : NoO K2 g2 q := fun x hx hl ho => by
  obtain ⟨r1, r2, r3, r4⟩ := hr
  by_cases e : K1.1 x = 0
  · by_cases z : x = r
    · subst z; rw [r3.2.2.2.2.1] at ho; exact hO ho
    · have w := (r4 x e (by rw [hx]; decide)).2 z q ho
      rw [hq] at w
      exact absurd w (by decide)
  · have e1 := (r2.1 x e).1
    rw [r2.2 x e] at hl ho
    exact h x (e1.symm.trans hx) hl ho
/-- another new one -/
theorem NoO.node (h : NoO K1 g1 q) (hr : K1.1 r = 0) : NoO (mkN K1 r a b c) (gset g1 r 0 0 0) q := fun x hx hl ho => by
  by_cases z : x = r
  · subst z; rw [gset_0] at hl; omega
  · rw [gset_ne z] at hl ho
    exact h x ((mkN_ne z).symm.trans hx) hl ho
/-- a node whose parts are no lists is done -/
theorem NwS.done1I (h : NwS K K1 g g1) (hq0 : K.1 q = 0) (hq : K1.1 q = 1) (h0 : g1 0 q = 0) (hL : 1 ≤ L) (hk : Itv k ∧ IvK (K1.2.1 0 q) k) (hs : Shp (K1.2.1 0 q) (fun f => K1.2.2.1 f q)) (hls : ∀ f : Nat, ¬ Lsf (K1.2.1 0 q) f) (hc : ∀ f x : Nat, f ≤ 3 → K1.2.2.1 f q = some x → K1.1 x = 1 ∧ 1 ≤ g1 0 x ∧ g1 0 x < L) (hx : K1.2.2.1 4 q = none) (hm : NoO K1 g1 q) (hkc : ∀ f x : Nat, f ≤ 3 → K1.2.2.1 f q = some x → Kch (K1.2.1 0 q) f (K1.2.1 0 x) k (g1 2 x)) (hO : ∀ o : Nat, O = o + 1 → K.1 o = 1 ∧ g 0 o = 0 ∧ ¬ K.2.1 0 o = 32) : NwR K K1 g (gset g1 q L O k) q O k L :=
  NwS.done h hq0 hq h0 hL hk hs (fun f x hf hx => ⟨(hc f x hf hx).1, (hc f x hf hx).2.1, (hc f x hf hx).2.2, fun z => absurd z (hls f), hkc f x hf hx⟩) hx (fun x h1 h2 h3 => absurd h3 (hm x h1 h2)) (fun o ho => ⟨(hO o ho).1, fun z => by rw [(hO o ho).2.1] at z; omega, fun z => absurd z (hO o ho).2.2⟩)
/-- the root gets its owner -/
theorem NwR.own {O2 : Nat} (h : NwR K K1 g g1 r 0 k L) (hO : ∀ o : Nat, O2 = o + 1 → K.1 o = 1 ∧ g 0 o = 0 ∧ ¬ K.2.1 0 o = 32) : NwR K K1 g (gset g1 r (g1 0 r) O2 k) r O2 k L := by
  obtain ⟨h1, h2, ⟨r1, r2, r3, r4, r5, r6, r7⟩, h4⟩ := h
  have hg0 : ∀ p : Nat, gset g1 r (g1 0 r) O2 k 0 p = g1 0 p := fun p => by
    by_cases z : p = r
    · rw [z, gset_0]
    · exact gset_ne z
  have hg2 : ∀ p : Nat, gset g1 r (g1 0 r) O2 k 2 p = g1 2 p := fun p => by
    by_cases z : p = r
    · rw [z, gset_2, r6]
    · exact gset_ne z
  refine ⟨fun p hp hl => ?_, ⟨h2.1, fun p hp i => (gset_ne (fun z => hp (by rw [z]; exact r1))).trans (h2.2 p hp i)⟩, ⟨r1, r2, by rw [gset_0]; exact r3, by rw [gset_0]; exact r4, gset_1, gset_2, r7⟩, fun x hx hn => ?_⟩
  · rw [hg0] at hl
    obtain ⟨a1, a2, a3, a4, a5⟩ := h1 p hp hl
    refine ⟨a1, fun f x hf hx => ?_, fun x hx => ?_, ?_, fun o ho => ?_⟩
    · obtain ⟨c1, c2, c3, c4⟩ := a2 f x hf hx
      rw [hg0, hg0, hg2, hg2]
      refine ⟨c1, c2, c3, fun z => ?_, c4.2⟩
      have c5 := c4.1 z
      have xr : ¬ x = r := fun e => by rw [e, r5] at c5; omega
      rw [gset_ne xr]; exact c5
    · obtain ⟨c1, c2, c3, c4, c5, c6⟩ := a3 x hx
      have pr : ¬ p = r := fun e => by rw [e, r5] at c5; exact c5 rfl
      have xr : ¬ x = r := fun e => by rw [e, r5] at c3; exact c5 c3.symm
      rw [hg0, gset_ne xr, gset_ne xr, gset_ne pr, gset_ne pr]
      exact ⟨c1, c2, c3, c4, c5, c6⟩
    · rw [hg2]; exact a4
    · rw [hg0, hg0, hg2, hg2]
      by_cases e : p = r
      · rw [e, gset_1] at ho
        obtain ⟨d1, d2, d3⟩ := hO o ho
        have d0 : ¬ K.1 o = 0 := by rw [d1]; decide
        exact ⟨(h2.1 o d0).1.trans d1, fun z => (by rw [h2.2 o d0, d2] at z; omega), fun z => absurd (((h2.1 o d0).2.1 0).symm.trans z) d3, fun z => (by rw [h2.2 o d0, d2] at z; omega)⟩
      · rw [gset_ne e] at ho
        exact a5 o ho
  · obtain ⟨b1, b2⟩ := h4 x hx hn
    exact ⟨b1, fun z o ho => b2 z o (by rw [gset_ne z] at ho; exact ho)⟩
theorem Shp.k14 {C : Nat → Option Nat} {k9 : Int32} (hk : k9 = 14) (h0 : ¬ C 0 = none) (h1 : ¬ C 1 = none) : Shp k9 C := by
  subst hk
  exact ⟨fun z => absurd z (by decide), fun _ => ⟨h0, h1⟩, fun z => absurd z (by decide), fun z => absurd z (by decide), fun z => absurd z (by decide)⟩
theorem Lsf.no14 {f : Nat} {k9 : Int32} (hk : k9 = 14) : ¬ Lsf k9 f := by
  subst hk
  intro z
  rcases z with ⟨z, _⟩ | ⟨z | z | z, _⟩ <;> exact absurd z (by decide)
end BT3

/-! frames with the two slots of a LAST: how, and with what value, its try was left -/
/-- behind the first slot of a LAST stands its second -/
def WfA (a : AS) : Prop := ∀ s : Nat, s < a.2.1 → 1000 ≤ a.2.2.1 s → s + 1 < a.2.1 ∧ a.2.2.1 (s + 1) = 999
def PrO (fi : Nat → Nat → Prop) (S : Nat → Nat) (rt : Nat) (wp : Nat → Nat → Prop) (h e : Nat) (w v : Int64) : Prop :=
  (w = nmV (-1) ∧ e = 1) ∨ (w = nmV (-2) ∧ ∃ p d : Nat, p < 3008 ∧ v = rfV p ∧ S p = d + 1 ∧ d < 60) ∨ (w = nmV (-3) ∧ (rt = 63 ∨ VT fi S rt v)) ∨ ∃ x : Nat, x < 10000 ∧ w = nmV (nI x) ∧ wp h x
def FrP (fi : Nat → Nat → Prop) (S : Nat → Nat) (rt : Nat) (wp : Nat → Nat → Prop) (st : Nat → Int64) (a : AS) (base : Nat) : Prop :=
  ∀ s h e : Nat, s + 1 < a.2.1 → e ≤ 1 → a.2.2.1 s = 1000 + 2 * h + e → PrO fi S rt wp h e (st (base + s)) (st (base + s + 1))
section XP
variable {fi : Nat → Nat → Prop} {S S1 ph : Nat → Nat} {wp : Nat → Nat → Prop} {st st1 : Nat → Int64} {t u top base sn k h e rt : Nat} {v w v1 : Int64} {a b c : AS}
theorem FrP.go (q : FrP fi S rt wp st a base) (g : Go fi a b) : FrP fi S rt wp st b base := fun s h e hs he hc => by
  obtain ⟨g1, g2, g3, g4⟩ := g
  rw [g3 s (by omega)] at hc
  exact q s h e (by omega) he hc
theorem FrP.stk (q : FrP fi S rt wp st a base) (wf : WfA a) (hx : ∀ i : Nat, i < a.2.1 → 900 ≤ a.2.2.1 i → st1 (base + i) = st (base + i)) : FrP fi S rt wp st1 a base := fun s h e hs he hc => by
  have z := wf s (by omega) (by omega)
  have z1 := hx (s + 1) z.1 (by omega)
  rw [show base + (s + 1) = base + s + 1 by omega] at z1
  rw [hx s (by omega) (by omega), z1]
  exact q s h e hs he hc
theorem FrP.wos {l : List Nat} (q : FrP fi S rt wp st a base) : FrP fi S rt wp st (wos l a) base := q
theorem FrP.psh (q : FrP fi S rt wp st a base) : FrP fi S rt wp st (psh t a) base := q
theorem FrP.clear (q : FrP fi S rt wp st a base) (wf : WfA a) (ht : t < 900) (hx : ∀ i : Nat, i < a.2.1 → st1 (base + i) = st (base + i)) : FrP fi S rt wp st1 (a.1, a.2.1 + 1, upM a.2.2.1 a.2.1 t, a.2.2.2) base := fun s h e hs he hc => by
  have hs9 : s + 1 < a.2.1 + 1 := hs
  have hc9 : upM a.2.2.1 a.2.1 t s = 1000 + 2 * h + e := hc
  rw [upM_ne (by omega)] at hc9
  have z := wf s (by omega) (by omega)
  have z1 := hx (s + 1) z.1
  rw [show base + (s + 1) = base + s + 1 by omega] at z1
  rw [hx s (by omega), z1]
  exact q s h e z.1 he hc9
/-- into a LAST: its two slots are written -/
theorem FrP.last (q : FrP fi S rt wp st a base) (wf : WfA a) (hk : k ≤ a.2.1) (wb : WfA b) (b1 : b.2.1 = k + 2) (b2 : ∀ i : Nat, i < k → b.2.2.1 i = a.2.2.1 i) (b3 : b.2.2.1 k = 1000 + 2 * h + e) (b4 : b.2.2.1 (k + 1) = 999) (he : e ≤ 1)
    (hx : ∀ i : Nat, i < k → st1 (base + i) = st (base + i)) (hp : PrO fi S rt wp h e (st1 (base + k)) (st1 (base + k + 1))) : FrP fi S rt wp st1 b base := fun s h9 e9 hs he9 hc => by
  by_cases z : s = k
  · subst z
    rw [b3] at hc
    have y1 : h9 = h := by omega
    have y2 : e9 = e := by omega
    subst y1; subst y2
    exact hp
  · have y : ¬ s = k + 1 := fun y => by rw [y, b4] at hc; omega
    have y1 : s < k := by omega
    have y3 : ¬ s + 1 = k := fun y3 => by
      have z9 := (wb s (by omega) (by omega)).2
      rw [y3, b3] at z9; omega
    rw [b2 s y1] at hc
    have z1 := hx (s + 1) (by omega)
    rw [show base + (s + 1) = base + s + 1 by omega] at z1
    rw [hx s y1, z1]
    exact q s h9 e9 (by omega) he9 hc
/-- to a handler that is no LAST -/
theorem FrP.caught (q : FrP fi S rt wp st a base) (hk : k ≤ a.2.1) (wb : WfA b) (b1 : b.2.1 ≤ k + 1) (b2 : ∀ i : Nat, i < k → b.2.2.1 i = a.2.2.1 i) (b3 : b.2.2.1 k < 900)
    (hx : ∀ i : Nat, i < k → st1 (base + i) = st (base + i)) : FrP fi S rt wp st1 b base := fun s h9 e9 hs he9 hc => by
  have y1 : s < k := by omega
  have y3 : ¬ s + 1 = k := fun y3 => by
    have z9 := (wb s (by omega) (by omega)).2
    rw [y3] at z9; omega
  rw [b2 s y1] at hc
  have z1 := hx (s + 1) (by omega)
  rw [show base + (s + 1) = base + s + 1 by omega] at z1
  rw [hx s y1, z1]
  exact q s h9 e9 (by omega) he9 hc
theorem PrO.map (q : PrO fi S rt wp h e w v) (hf : ∀ (t : Nat), VT fi S t v → VT fi S1 t v) (hs : ∀ p d : Nat, S p = d + 1 → S1 p = d + 1) : PrO fi S1 rt wp h e w v := by
  rcases q with q | ⟨q1, p, d, q2, q3, q4, q5⟩ | ⟨q1, q2⟩ | q
  · exact Or.inl q
  · exact Or.inr (Or.inl ⟨q1, p, d, q2, q3, hs p d q4, q5⟩)
  · exact Or.inr (Or.inr (Or.inl ⟨q1, q2.imp id (hf rt)⟩))
  · exact Or.inr (Or.inr (Or.inr q))
theorem PrO.move (q : PrO fi S rt wp h e w v) (hm : MV ph v v1) (hs : SM S S1 ph) : PrO fi S1 rt wp h e w v1 := by
  rcases q with q | ⟨q1, p, d, q2, q3, q4, q5⟩ | ⟨q1, q2⟩ | q
  · exact Or.inl q
  · refine Or.inr (Or.inl ⟨q1, ?_⟩)
    rcases hm.ref q2 q3 with ⟨w1, w2⟩ | ⟨w1, w2, w3⟩
    · exact ⟨p, d, q2, w2.trans q3, (hs.1 p w1).trans q4, q5⟩
    · exact ⟨ph p, d, (hs.2 p w2).2, w3, ((hs.2 p w2).1).trans q4, q5⟩
  · refine Or.inr (Or.inr (Or.inl ⟨q1, ?_⟩))
    rcases q2 with q2 | q2
    · exact Or.inl q2
    · exact Or.inr (q2.move hm hs)
  · exact Or.inr (Or.inr (Or.inr q))
theorem PrO.way (q : PrO fi S rt wp h e w v) (hm : MV ph w v1) : v1 = w := by
  rcases q with ⟨q, _⟩ | ⟨q, _⟩ | ⟨q, _⟩ | ⟨x, _, q, _⟩ <;> exact hm.num q
end XP

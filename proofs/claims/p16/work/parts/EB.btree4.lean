/-- a node q that is not done gets a list: what was added since K -/
def ArS (K K1 : PK) (g g1 : Nat → Nat → Nat) (q B lo hi nd : Nat) : Prop := WN K1 g1 ∧ (∀ p : Nat, ¬ K.1 p = 0 → ¬ p = q → Sm K K1 p) ∧ (∀ p : Nat, ¬ K.1 p = 0 → ∀ i : Nat, g1 i p = g i p) ∧ (K1.1 q = 1 ∧ g1 0 q = 0 ∧ (∀ f : Nat, ¬ f = 4 → K1.2.1 f q = K.2.1 f q) ∧ ∀ f : Nat, ¬ f = 1 → K1.2.2.1 f q = K.2.2.1 f q) ∧ (∀ x : Nat, K.1 x = 0 → ¬ K1.1 x = 0 → K1.1 x = 1 ∧ ∀ o : Nat, g1 1 x = o + 1 → K.1 o = 0 ∨ o = q) ∧ (∀ x : Nat, K1.1 x = 1 → 1 ≤ g1 0 x → g1 1 x = q + 1 → (g1 0 x ≤ B ∧ K.1 x = 0) ∧ lo ≤ rS (g1 2 x) ∧ rS (g1 2 x) + 1 ≤ rE (g1 2 x) ∧ rE (g1 2 x) ≤ hi ∧ 1 ≤ rD (g1 2 x) ∧ rD (g1 2 x) ≤ nd) ∧ (K1.2.2.1 1 q = none ∨ ∃ x : Nat, K1.2.2.1 1 q = some x ∧ K1.1 x = 1 ∧ 1 ≤ g1 0 x ∧ g1 1 x = q + 1)
section BT4
variable {K K0 K1 K2 : PK} {g g0 g1 g2 : Nat → Nat → Nat} {q r x y O k L B B2 f lo hi hi2 nd nd2 : Nat}
theorem ArS.nil (h : WN K g) (hq : K.1 q = 1) (h0 : g 0 q = 0) (hb : K.2.2.1 1 q = none) (hn : NoO K g q) : ArS K K g g q 0 lo hi nd := ⟨h, fun p _ _ => ⟨rfl, fun _ => rfl, fun _ => rfl, rfl, rfl, rfl⟩, fun _ _ _ => rfl, ⟨hq, h0, fun _ _ => rfl, fun _ _ => rfl⟩, fun x h1 h2 => absurd h1 h2, fun x h1 h2 h3 => absurd h3 (hn x h1 h2), Or.inl hb⟩
theorem ArS.T (h : ArS K K1 g g1 q B lo hi nd) (hq : K.1 q = 1) {o : Nat} (ho : K1.1 o = 0) : K.1 o = 0 := by
  refine Classical.byContradiction fun hn => ?_
  by_cases z : o = q
  · subst z; rw [h.2.2.2.1.1] at ho; exact absurd ho (by decide)
  · rw [(h.2.1 o hn z).1] at ho
    exact hn ho
/-- one more was read -/
theorem ArS.call (h : ArS K K1 g g1 q B lo hi nd) (hq : K.1 q = 1) (hr : NwR K1 K2 g1 g2 r (q + 1) k L) (hB : B ≤ B2 ∧ L ≤ B2) (hkb : (lo ≤ rS k ∧ rS k + 1 ≤ rE k ∧ rE k ≤ hi2 ∧ 1 ≤ rD k ∧ rD k ≤ nd2) ∧ hi ≤ hi2 ∧ nd ≤ nd2) : ArS K K2 g g2 q B2 lo hi2 nd2 := by
  have hT := @ArS.T K K1 g g1 q B lo hi nd h hq
  obtain ⟨h1, h2, h3, ⟨h4, h5, h6, h7⟩, h8, h9, h10⟩ := h
  obtain ⟨r1, r2, r3, r4⟩ := hr
  have hq0 : ¬ K1.1 q = 0 := by rw [h4]; decide
  obtain ⟨s1, s2, s3, -, -, -⟩ := r2.1 q hq0
  have hk : ∀ p : Nat, ¬ K.1 p = 0 → ¬ K1.1 p = 0 := fun p hp z => hp (hT z)
  refine ⟨r1, fun p hp hn => (h2 p hp hn).trans (r2.1 p (hk p hp)), fun p hp i => (r2.2 p (hk p hp) i).trans (h3 p hp i), ⟨s1.trans h4, (r2.2 q hq0 0).trans h5, fun f hf => (s2 f).trans (h6 f hf), fun f hf => (s3 f).trans (h7 f hf)⟩, fun x hx hn => ?_, fun x hx hl ho => ?_, ?_⟩
  · by_cases e : K1.1 x = 0
    · obtain ⟨b1, b2⟩ := r4 x e hn
      refine ⟨b1, fun o ho => ?_⟩
      by_cases z : x = r
      · subst z; rw [r3.2.2.2.2.1] at ho; exact Or.inr (by omega)
      · exact Or.inl (hT (b2 z o ho))
    · obtain ⟨b1, b2⟩ := h8 x hx e
      exact ⟨(r2.1 x e).1.trans b1, fun o ho => b2 o (by rw [← r2.2 x e]; exact ho)⟩
  · by_cases e : K1.1 x = 0
    · by_cases z : x = r
      · subst z; exact ⟨⟨by have w := r3.2.2.2.1; omega, hT e⟩, by rw [r3.2.2.2.2.2.1]; exact hkb.1⟩
      · have w := (r4 x e (by rw [hx]; decide)).2 z q ho
        exact absurd w hq0
    · have e1 := (r2.1 x e).1
      rw [r2.2 x e] at hl ho ⊢
      rw [r2.2 x e]
      have w := h9 x (e1.symm.trans hx) hl ho
      exact ⟨⟨by omega, w.1.2⟩, by omega⟩
  · rcases h10 with w | ⟨x, w1, w2, w3, w4⟩
    · exact Or.inl ((s3 1).trans w)
    · have hx0 : ¬ K1.1 x = 0 := by rw [w2]; decide
      exact Or.inr ⟨x, (s3 1).trans w1, (r2.1 x hx0).1.trans w2, by rw [r2.2 x hx0]; exact w3, by rw [r2.2 x hx0]; exact w4⟩
/-- it is the first -/
theorem ArS.first (h : ArS K K1 g g1 q B lo hi nd) (hx : K1.1 x = 1 ∧ 1 ≤ g1 0 x ∧ g1 1 x = q + 1) : ArS K (kC K1 1 q (some x)) g g1 q B lo hi nd := by
  obtain ⟨h1, h2, h3, ⟨h4, h5, h6, h7⟩, h8, h9, h10⟩ := h
  refine ⟨WN.put h1 h5 rfl (fun _ => rfl) (fun p hp f _ => kC_ne hp), fun p hp hn => ?_, h3, ⟨h4, h5, h6, fun f hf => (kC_of hf).trans (h7 f hf)⟩, h8, h9, Or.inr ⟨x, kC_eq, hx.1, hx.2.1, hx.2.2⟩⟩
  obtain ⟨a1, a2, a3, a4, a5, a6⟩ := h2 p hp hn
  exact ⟨a1, a2, fun f => (kC_ne hn).trans (a3 f), a4, a5, a6⟩
/-- it comes behind y -/
theorem ArS.next (h : ArS K K1 g g1 q B lo hi nd) (hq : K.1 q = 1) (hy : K.1 y = 0 ∧ K1.1 y = 1 ∧ 1 ≤ g1 0 y ∧ g1 1 y = q + 1) (hx : K1.1 x = 1 ∧ 1 ≤ g1 0 x ∧ g1 1 x = q + 1) (hr : g1 2 y < g1 2 x) (hr6 : rE (g1 2 y) ≤ rS (g1 2 x)) : ArS K (kC K1 4 y (some x)) g g1 q B lo hi nd := by
  obtain ⟨h1, h2, h3, ⟨h4, h5, h6, h7⟩, h8, h9, h10⟩ := h
  have hyq : ¬ q = y := fun z => by rw [← z, hq] at hy; exact absurd hy.1 (by decide)
  refine ⟨WN.next h1 hy.2.1 hy.2.2.1 ⟨hx.1, hx.2.1, hx.2.2.trans hy.2.2.2.symm, hr, by rw [hy.2.2.2]; omega, hr6⟩, fun p hp hn => ?_, h3, ⟨h4, h5, h6, fun f hf => (kC_ne hyq).trans (h7 f hf)⟩, h8, h9, ?_⟩
  · have hpy : ¬ p = y := fun z => hp (by rw [z]; exact hy.1)
    obtain ⟨a1, a2, a3, a4, a5, a6⟩ := h2 p hp hn
    exact ⟨a1, a2, fun f => (kC_ne hpy).trans (a3 f), a4, a5, a6⟩
  · rcases h10 with w | ⟨z, w1, w2⟩
    · exact Or.inl ((kC_of (by decide)).trans w)
    · exact Or.inr ⟨z, (kC_of (by decide)).trans w1, w2⟩
theorem ArS.fin {v : Int32} (h : ArS K K1 g g1 q B lo hi nd) : ArS K (kI K1 4 q v) g g1 q B lo hi nd := by
  obtain ⟨h1, h2, h3, ⟨h4, h5, h6, h7⟩, h8, h9, h10⟩ := h
  refine ⟨WN.put h1 h5 rfl (fun _ => kI_of (by decide)) (fun p hp f _ => rfl), fun p hp hn => ?_, h3, ⟨h4, h5, fun f hf => (kI_of hf).trans (h6 f hf), h7⟩, h8, h9, h10⟩
  obtain ⟨a1, a2, a3, a4, a5, a6⟩ := h2 p hp hn
  exact ⟨a1, fun f => (kI_ne hn).trans (a2 f), a3, a4, a5, a6⟩
/-- beside what was added before -/
theorem NwS.args (h : NwS K0 K g0 g) (ha : ArS K K1 g g1 q B lo hi nd) (hq : K.1 q = 1) (hq0 : K0.1 q = 0) : NwS K0 K1 g0 g1 := by
  have hT := @ArS.T K K1 g g1 q B lo hi nd ha hq
  obtain ⟨h1, h2, h3⟩ := h
  obtain ⟨a1, a2, a3, a4, a5, a6, a7⟩ := ha
  have ho : ∀ p : Nat, ¬ K0.1 p = 0 → ¬ K.1 p = 0 := fun p hp => by rw [(h2.1 p hp).1]; exact hp
  refine ⟨a1, ⟨fun p hp => (h2.1 p hp).trans (a2 p (ho p hp) (fun z => hp (by rw [z]; exact hq0))), fun p hp i => (a3 p (ho p hp) i).trans (h2.2 p hp i)⟩, fun x hx hn => ?_⟩
  by_cases e : K.1 x = 0
  · obtain ⟨b1, b2⟩ := a5 x e hn
    refine ⟨b1, fun o ho => ?_⟩
    rcases b2 o ho with w | w
    · exact old_T h2 w
    · rw [w]; exact hq0
  · obtain ⟨b1, b2⟩ := h3 x hx e
    refine ⟨?_, fun o ho => b2 o (by rw [← a3 x e]; exact ho)⟩
    by_cases z : x = q
    · subst z; exact a4.1
    · exact (a2 x e z).1.trans b1
end BT4

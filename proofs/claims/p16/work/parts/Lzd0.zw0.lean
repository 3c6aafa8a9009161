/-! what the tree tells of E's and statements -/
/-- what tokens tell -/
def TkO (pb : PNb) (K : PK) (kd ty : Nat → Int32) (sz nd q : Nat) : Prop := (K.2.1 0 q = 15 → PfK (tkN kd sz 67 (K.2.1 1 q))) ∧ (K.2.1 0 q = 17 → SnK (tkN kd sz 67 (K.2.1 1 q))) ∧ ObK pb K ty sz q ∧ (K.2.1 0 q = 9 → tyN ty sz (K.2.1 1 q) < 62) ∧ (K.2.1 0 q = 35 → tyN ty sz (K.2.1 2 q) < nd)
section ZWA
variable {pb : PNb} {K : PK} {g : Nat → Nat → Nat} {kd ty : Nat → Int32} {sz nd q : Nat}
theorem NdO.iv (h : NdO K g q) : IvK (K.2.1 0 q) (g 2 q) := h.2.2.2.1.2
theorem ArF.of (h : WN K g) (hq : K.1 q = 1) (hl : 1 ≤ g 0 q) (hk : K.2.1 0 q = 10 ∨ K.2.1 0 q = 11) : ArF K g q := by
  have mm : ∀ x : Nat, K.1 x = 1 → 1 ≤ g 0 x → g 1 x = q + 1 → MmA K g q x ∧ rM (g 2 q) ≤ rS (g 2 x) := fun x h1 h2 h3 => by
    obtain ⟨_, b2, _, b4⟩ := (h x h1 h2).2.2.2.2 q h3
    have w := (b4 hl).2.2 hk
    have w2 := b2 hl
    refine ⟨⟨h1, h2, by omega, by omega, by omega, ?_, ?_, h3⟩, by omega⟩
    · unfold ndE; omega
    · unfold ndE; omega
  refine ⟨fun x hx => ?_, fun x y hx hy => ?_⟩
  · obtain ⟨c1, c2, c3, c4, _⟩ := (h q hq hl).2.1 1 x (by decide) hx
    exact mm x c1 c2 (c4 (Or.inr ⟨by rcases hk with e | e; exact Or.inl e; exact Or.inr (Or.inl e), rfl⟩))
  · obtain ⟨c1, c2, c3, c4, c5, c6⟩ := (h x hx.1 hx.2.1).2.2.1 y hy
    exact ⟨(mm y c1 c2 (c3.trans hx.2.2.2.2.2.2.2)).1, c6⟩
theorem EkA.of (h : WN K g) (ht : ∀ q : Nat, K.1 q = 1 → 1 ≤ g 0 q → TkO pb K kd ty sz nd q) : EkA pb K g kd ty sz := fun q hq hl => by
  have hn := h q hq hl
  obtain ⟨t1, t2, t3, t4, _⟩ := ht q hq hl
  refine ⟨fun hk x hx => ?_, fun hk x y hx hy => ?_, fun hk x y z hx hy hz => ?_, fun hk => ⟨ArF.of h hq hl hk, ?_, fun x hx => ?_⟩, t1, t2, t3, t4⟩
  · have w := (hn.kv (f := 0) (by decide) hx).1 hk rfl
    unfold EcO tlE ndE InE; omega
  · have w := (hn.kv (f := 0) (by decide) hx).2.1 hk rfl
    have w2 := (hn.kv (f := 1) (by decide) hy).2.2.1 hk rfl
    unfold EcO tlE ndE InE; omega
  · have w := (hn.kv (f := 0) (by decide) hx).2.2.2.1 hk rfl
    have w2 := (hn.kv (f := 1) (by decide) hy).2.2.2.2.1 hk rfl
    have w3 := (hn.kv (f := 2) (by decide) hz).2.2.2.2.2.1 hk rfl
    unfold EcO tlE ndE InE; omega
  · exact hn.iv.1 hk
  · have w9 := hn.iv.1 hk
    have w := (hn.kv (f := 0) (by decide) hx).2.2.2.2.2.2.1 hk rfl
    unfold EcO tlE ndE InE; omega
theorem SkA.of (h : WN K g) (ht : ∀ q : Nat, K.1 q = 1 → 1 ≤ g 0 q → TkO pb K kd ty sz nd q) : SkA K g ty sz nd := fun q hq hl => by
  have hn := h q hq hl
  have hit := hn.it
  obtain ⟨_, _, _, _, t5⟩ := ht q hq hl
  refine ⟨fun hk => ⟨?_, fun x hx => ?_⟩, fun hk x y hx hy => ?_, fun hk x hx => ?_, fun hk x y hx hy => ?_, fun hk d hd => ?_, fun hk => ⟨?_, fun x hx => ?_⟩, fun hk => ?_, fun hk x hx => ?_, fun hk x hx => ⟨?_, fun z hz => ?_⟩, fun hk => ⟨t5 hk, fun x hx => ?_⟩, fun hk => ⟨fun hk9 => ?_, fun x x1 x2 x3 => ?_⟩⟩
  · have w := hn.iv.2.1 (Or.inr (Or.inl hk))
    unfold tlE; omega
  · have w := (hn.kv (f := 0) (by decide) hx).2.2.2.2.2.2.2.1 (Or.inl hk) rfl
    unfold EsO EcO tlE ndE; omega
  · have w := (hn.kv (f := 0) (by decide) hx).2.2.2.2.2.2.2.2.1 hk rfl
    have w2 := (hn.kv (f := 1) (by decide) hy).2.2.2.2.2.2.2.2.2.1 hk rfl
    unfold EsO EcO tlE ndE InE; omega
  · obtain ⟨w0, w⟩ := (hn.kv (f := 0) (by decide) hx).2.2.2.2.2.2.2.2.2.2.1 hk rfl
    refine ⟨?_, ?_, (hn.2.1 0 _ (by decide) hx).1, w0⟩
    · unfold EsO EcO tlE ndE; omega
    · unfold tlE; omega
  · have w := (hn.kv (f := 0) (by decide) hx).2.2.2.2.2.2.2.2.2.2.2.1 hk rfl
    obtain ⟨v0, v⟩ := (hn.kv (f := 1) (by decide) hy).2.2.2.2.2.2.2.2.2.2.2.2.1 hk rfl
    refine ⟨by unfold EsO EcO tlE ndE; omega, ?_, by unfold ndE; omega, ⟨(hn.2.1 1 _ (by decide) hy).1, v0⟩, fun z hz => ?_⟩
    · rcases e : K.2.2.1 2 q with _ | z
      · show tlE g x + tlE g y + 0 + 3 ≤ tlE g q
        unfold tlE; omega
      · obtain ⟨u0, u⟩ := (hn.kv (f := 2) (by decide) e).2.2.2.2.2.2.2.2.2.2.2.2.2.1 hk rfl
        show tlE g x + tlE g y + tlE g z + 3 ≤ tlE g q
        unfold tlE; omega
    · obtain ⟨u0, u⟩ := (hn.kv (f := 2) (by decide) hz).2.2.2.2.2.2.2.2.2.2.2.2.2.1 hk rfl
      exact ⟨by unfold ndE; omega, (hn.2.1 2 _ (by decide) hz).1, u0⟩
  · obtain ⟨v0, v⟩ := (hn.kv (f := 3) (by decide) hd).2.2.2.2.2.2.2.2.2.2.2.2.2.2.2.2.2.1 hk rfl
    have wi := hn.iv.2.2 hk
    have p0 : ∀ x : Nat, K.2.2.1 0 q = some x → (rS (g 2 q) + 2 ≤ rS (g 2 x) ∧ rS (g 2 x) ≤ rE (g 2 x) ∧ rE (g 2 x) + 1 ≤ rM (g 2 q)) ∧ (K.2.1 0 x = 22 ∨ K.2.1 0 x = 23) := fun x hx => by
      obtain ⟨w0, w⟩ := (hn.kv (f := 0) (by decide) hx).2.2.2.2.2.2.2.2.2.2.2.2.2.2.1 hk rfl
      exact ⟨w, w0⟩
    have p2 : ∀ x : Nat, K.2.2.1 2 q = some x → (rX (g 2 q) + 1 ≤ rS (g 2 x) ∧ rS (g 2 x) ≤ rE (g 2 x) ∧ rE (g 2 x) + 1 ≤ rN (g 2 q)) ∧ (K.2.1 0 x = 23 ∨ K.2.1 0 x = 24) := fun x hx => by
      obtain ⟨w0, w⟩ := (hn.kv (f := 2) (by decide) hx).2.2.2.2.2.2.2.2.2.2.2.2.2.2.2.2.1 hk rfl
      exact ⟨w, w0⟩
    have p1 : ∀ x : Nat, K.2.2.1 1 q = some x → rM (g 2 q) ≤ rS (g 2 x) ∧ rS (g 2 x) + 1 ≤ rE (g 2 x) ∧ rE (g 2 x) ≤ rX (g 2 q) ∧ 1 ≤ rD (g 2 x) ∧ rD (g 2 x) ≤ 243 := fun x hx => (hn.kv (f := 1) (by decide) hx).2.2.2.2.2.2.2.2.2.2.2.2.2.2.2.1 hk rfl
    have s0 : tO g (K.2.2.1 0 q) + rS (g 2 q) + 2 ≤ rM (g 2 q) ∧ (tO g (K.2.2.1 0 q) = 0 ∨ tO g (K.2.2.1 0 q) + rS (g 2 q) + 3 ≤ rM (g 2 q)) := by
      rcases e : K.2.2.1 0 q with _ | x
      · show 0 + rS (g 2 q) + 2 ≤ rM (g 2 q) ∧ (0 = 0 ∨ _)
        exact ⟨by omega, Or.inl rfl⟩
      · have w := (p0 x e).1
        show tlE g x + rS (g 2 q) + 2 ≤ rM (g 2 q) ∧ (tlE g x = 0 ∨ tlE g x + rS (g 2 q) + 3 ≤ rM (g 2 q))
        unfold tlE; omega
    have s1 : tO g (K.2.2.1 1 q) + rM (g 2 q) ≤ rX (g 2 q) := by
      rcases e : K.2.2.1 1 q with _ | x
      · show 0 + rM (g 2 q) ≤ rX (g 2 q)
        omega
      · have w := p1 x e
        show tlE g x + rM (g 2 q) ≤ rX (g 2 q)
        unfold tlE; omega
    have s2 : tO g (K.2.2.1 2 q) + rX (g 2 q) + 1 ≤ rN (g 2 q) := by
      rcases e : K.2.2.1 2 q with _ | x
      · show 0 + rX (g 2 q) + 1 ≤ rN (g 2 q)
        omega
      · have w := (p2 x e).1
        show tlE g x + rX (g 2 q) + 1 ≤ rN (g 2 q)
        unfold tlE; omega
    refine ⟨by unfold ndE; omega, ⟨(hn.2.1 3 _ (by decide) hd).1, v0⟩, by unfold tlE; omega, fun x hx => ⟨(hn.2.1 0 _ (by decide) hx).1, (p0 x hx).2⟩, fun x hx => ?_, fun x hx => ⟨(hn.2.1 2 _ (by decide) hx).1, (p2 x hx).2⟩⟩
    have w := p1 x hx
    unfold EsO EcO tlE ndE; omega
  · have w := hn.iv.2.1 (Or.inr (Or.inr (Or.inl hk)))
    unfold tlE; omega
  · have w := (hn.kv (f := 0) (by decide) hx).2.2.2.2.2.2.2.1 (Or.inr (Or.inl hk)) rfl
    unfold EsO EcO tlE ndE; omega
  · have w : rS (g 2 q) + 2 ≤ rE (g 2 q) := by
      rcases hk with hk | hk
      · exact hn.iv.2.1 (Or.inr (Or.inr (Or.inr (Or.inl hk))))
      · exact hn.iv.2.1 (Or.inr (Or.inr (Or.inr (Or.inr (hk)))))
    unfold tlE; omega
  · have w : rS (g 2 q) ≤ rS (g 2 x) ∧ rS (g 2 x) + 1 ≤ rE (g 2 x) ∧ rE (g 2 x) ≤ rE (g 2 q) ∧ rE (g 2 x) + rS (g 2 q) + 2 ≤ rE (g 2 q) + rS (g 2 x) ∧ 1 ≤ rD (g 2 x) ∧ rD (g 2 x) ≤ 243 := by
      rcases hk with hk | hk
      · exact (hn.kv (f := 0) (by decide) hx).2.2.2.2.2.2.2.1 (Or.inr (Or.inr (Or.inl hk))) rfl
      · exact (hn.kv (f := 0) (by decide) hx).2.2.2.2.2.2.2.1 (Or.inr (Or.inr (Or.inr (hk)))) rfl
    unfold EsO EcO tlE ndE; omega
  · obtain ⟨_, w⟩ := (hn.kv (f := 0) (by decide) hx).2.2.2.2.2.2.2.2.2.2.2.2.2.2.2.2.2.2.1 hk rfl
    unfold ndE; omega
  · obtain ⟨_, w⟩ := (hn.kv (f := 2) (by decide) hz).2.2.2.2.2.2.2.2.2.2.2.2.2.2.2.2.2.2.2.1 hk rfl
    unfold ndE; omega
  · obtain ⟨_, w⟩ := (hn.kv (f := 0) (by decide) hx).2.2.2.2.2.2.2.2.2.2.2.2.2.2.2.2.2.2.2.2 hk rfl
    unfold ndE; omega
  · exact hn.iv.2.1 (Or.inl hk9)
  · have b := ((h x x1 x2).2.2.2.2 q x3).2.2.2 hl
    unfold ndE
    rcases hk with hk | hk
    · exact (b.1 hk).2.2
    · exact (b.2.1 hk).2.2
end ZWA

/-! fitting; the steps that are left -/
/-- bt l k: k is above l -/
def fitK (bt : Nat → Nat → Prop) (nd t u : Nat) : Prop := ¬ t = 63 ∧ ¬ u = 63 ∧ (t = u ∨ (¬ t = u ∧ (t = 62 ∨ u = 0) ∧ ¬ t = 60 ∧ ¬ t = 61 ∧ ¬ u = 60 ∧ ¬ u = 61) ∨
  (¬ t = u ∧ ¬ t = 62 ∧ ¬ u = 0 ∧ 64 ≤ t ∧ 64 ≤ u ∧ u - 64 < nd ∧ t - 64 < nd ∧ bt (t - 64) (u - 64)) ∨ (¬ t = u ∧ ¬ t = 62 ∧ ¬ u = 0 ∧ (t < 64 ∨ u < 64) ∧ u < nd ∧ t < nd ∧ bt t u))
def DyT (nd d : Nat) : Prop := d < nd ∨ (64 ≤ d ∧ d < 128)
def fiK (bt : Nat → Nat → Prop) (nd d t : Nat) : Prop := DyT nd d ∧ fitK bt nd d t
section XI
variable {bt : Nat → Nat → Prop} {nd d t u : Nat} {O : Nat → Int32} {g g1 : Nat → Nat} {pc n x fu : Nat}
theorem fiK.trans (hn : nd ≤ 37) (h0 : ∀ k : Nat, ¬ bt 0 k) (ht : ∀ i j k : Nat, i < nd → j < nd → k < nd → bt i j → bt j k → bt i k) (h : fiK bt nd d t) (q : fitK bt nd t u) (h62 : ¬ t = 62) : fiK bt nd d u := by
  obtain ⟨hd, a1, a2, a3⟩ := h
  obtain ⟨b1, b2, b3⟩ := q
  refine ⟨hd, a1, b2, ?_⟩
  unfold DyT at hd
  by_cases e1 : d = t
  · subst e1; exact b3
  by_cases e2 : t = u
  · subst e2; exact a3
  by_cases e3 : d = u
  · exact Or.inl e3
  rcases a3 with a3 | ⟨_, a4, a5, a6, a7, a8⟩ | ⟨_, a4, a5, a6, a7, a8, a9, a10⟩ | ⟨_, a4, a5, a6, a7, a8, a9⟩
  · exact absurd a3 e1
  · rcases a4 with a4 | a4
    · omega
    · subst a4
      rcases b3 with b3 | ⟨_, b4, _⟩ | ⟨_, _, _, b6, _⟩ | ⟨_, _, _, _, _, _, b9⟩
      · exact absurd b3 e2
      · rcases b4 with b4 | b4
        · omega
        · omega
      · omega
      · exact absurd b9 (h0 u)
  · rcases b3 with b3 | ⟨_, b4, b5, b6, b7, b8⟩ | ⟨_, b4, b5, b6, b7, b8, b9, b10⟩ | ⟨_, b4, b5, b6, b7, b8, b9⟩
    · exact absurd b3 e2
    · rcases b4 with b4 | b4
      · omega
      · exact Or.inr (Or.inl ⟨e3, Or.inr b4, by omega, by omega, by omega, by omega⟩)
    · exact Or.inr (Or.inr (Or.inl ⟨e3, a4, b5, a6, b7, b8, a9, ht _ _ _ a9 a8 b8 a10 b10⟩))
    · omega
  · rcases b3 with b3 | ⟨_, b4, b5, b6, b7, b8⟩ | ⟨_, b4, b5, b6, b7, b8, b9, b10⟩ | ⟨_, b4, b5, b6, b7, b8, b9⟩
    · exact absurd b3 e2
    · rcases b4 with b4 | b4
      · omega
      · exact Or.inr (Or.inl ⟨e3, Or.inr b4, by omega, by omega, by omega, by omega⟩)
    · omega
    · exact Or.inr (Or.inr (Or.inr ⟨e3, a4, b5, by omega, b7, a8, ht _ _ _ a8 a7 b7 a9 b9⟩))
/-- what fits null's type: nothing that was made -/
theorem fiK.null (hn : nd ≤ 37) (h : fiK bt nd d 62) : False := by
  obtain ⟨hd, a1, a2, a3⟩ := h
  unfold DyT at hd
  rcases a3 with a3 | ⟨_, a4, _⟩ | ⟨_, _, _, _, a5, _⟩ | ⟨_, _, _, _, a5, _⟩
  · omega
  · rcases a4 with a4 | a4
    · omega
    · omega
  · omega
  · omega
/-- a type that fits another one: what is of it is of the other one -/
theorem TL.fit (hn : nd ≤ 37) (h0 : ∀ k : Nat, ¬ bt 0 k) (ht : ∀ i j k : Nat, i < nd → j < nd → k < nd → bt i j → bt j k → bt i k) (q : fitK bt nd t u) (h1 : RfT t ∨ t = 60 ∨ t = 61) (h2 : RfT u ∨ u = 60 ∨ u = 61) : TL (fiK bt nd) t u := by
  by_cases e : t = u
  · subst e; exact TL.rfl
  · obtain ⟨b1, b2, b3⟩ := q
    have r : RfT t ∧ RfT u := by
      unfold RfT at *
      rcases b3 with b3 | ⟨_, b4, b5, b6, b7, b8⟩ | ⟨_, b4, b5, b6, b7, b8, b9, b10⟩ | ⟨_, b4, b5, b6, b7, b8, b9⟩
      · exact absurd b3 e
      · omega
      · omega
      · omega
    refine TL.ref r.1 r.2 (fun d hd => ?_)
    by_cases z : t = 62
    · subst z; exact (hd.null hn).elim
    · exact hd.trans hn h0 ht ⟨b1, b2, b3⟩ z
/-- the steps that are left: of the place, and of the calls that wait -/
def wt (O : Nat → Int32) (pc : Nat) : Nat := if O pc = 0 then 0 else 10000 - pc
def sm (g : Nat → Nat) : Nat → Nat
  | 0 => 0
  | n + 1 => sm g n + (10000 - g (n + 1))
theorem wt_le : wt O pc ≤ 10000 - pc := by
  unfold wt
  by_cases z : O pc = 0
  · rw [if_pos z]; exact Nat.zero_le _
  · rw [if_neg z]; exact Nat.le_refl _
theorem wt_at (h : ¬ O pc = 0) : wt O pc = 10000 - pc := if_neg h
theorem wt_0 (h : O pc = 0) : wt O pc = 0 := if_pos h
theorem wt_on (h : ¬ O pc = 0) (hp : pc < 10000) (hx : pc < x ∨ O x = 0) : wt O x + 1 ≤ wt O pc := by
  rw [wt_at h]
  rcases hx with hx | hx
  · have := wt_le (O := O) (pc := x)
    omega
  · rw [wt_0 hx]; omega
theorem sm_same : ∀ {n : Nat}, (∀ i : Nat, i ≤ n → g1 i = g i) → sm g1 n = sm g n
  | 0, _ => rfl
  | n + 1, h => by
    show sm g1 n + (10000 - g1 (n + 1)) = sm g n + (10000 - g (n + 1))
    rw [sm_same (fun i hi => h i (by omega)), h (n + 1) (Nat.le_refl _)]
end XI

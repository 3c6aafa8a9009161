/-! pieces of code with their regions, one behind the other -/
def PcR (A : Nat → AS) (Q : RX) (O L : Nat → Int32) (pd : Nat → Prop) (c0 c1 g0 g1 hd : Nat) : Prop :=
  (∀ k : Nat, g0 ≤ k → k < g1 → c0 ≤ Q.1 k ∧ (Q.1 k ≤ Q.2.1 k ∧ Q.2.1 k ≤ Q.2.2.1 k ∧ Q.1 k < Q.2.2.1 k) ∧ Q.2.2.1 k < c1 ∧ hd ≤ Q.2.2.2.1 k ∧ (Q.2.2.2.2.1 k = -1 → Q.2.2.1 k ≤ Q.2.2.2.2.2 k ∧ Q.2.2.2.2.2 k < c1)) ∧ NsR Q g0 g1 ∧
  (∀ pc x : Nat, c0 ≤ pc → pc < c1 → (A pc).1 = 1 → O pc = nI 28 → ¬ pd pc → x < 10000 → L pc = nI x → LvR A Q g0 g1 pc x) ∧
  (∀ pc s h e : Nat, c0 ≤ pc → pc < c1 → (A pc).1 = 1 → O pc = nI 30 → s < 10000 → L pc = nI s → e ≤ 1 → (A pc).2.2.1 s = 1000 + 2 * h + e → c0 < h ∧ h ≤ pc ∧ EnR Q g0 g1 pc s h)
section XA
variable {A : Nat → AS} {Q : RX} {O L : Nat → Int32} {pd : Nat → Prop} {c0 c1 c2 g0 g1 g2 hd hd2 : Nat}
theorem PcR.nil : PcR A Q O L pd c0 c0 g0 g0 hd := ⟨fun k _ _ => by omega, fun j k h1 _ => by obtain ⟨a, b, _⟩ := h1; omega, fun pc x _ _ => by omega, fun pc s h e _ _ => by omega⟩
theorem PcR.less (h : PcR A Q O L pd c0 c1 g0 g1 hd) (hh : hd2 ≤ hd) : PcR A Q O L pd c0 c1 g0 g1 hd2 := ⟨fun k h1 h2 => ⟨(h.1 k h1 h2).1, (h.1 k h1 h2).2.1, (h.1 k h1 h2).2.2.1, by have := (h.1 k h1 h2).2.2.2.1; omega, (h.1 k h1 h2).2.2.2.2⟩, h.2⟩
theorem PcR.join (h : PcR A Q O L pd c0 c1 g0 g1 hd) (q : PcR A Q O L pd c1 c2 g1 g2 hd) (h1 : c0 ≤ c1) (h2 : c1 ≤ c2) (h3 : g0 ≤ g1) (h4 : g1 ≤ g2) : PcR A Q O L pd c0 c2 g0 g2 hd := by
  obtain ⟨a1, a2, a3, a4⟩ := h
  obtain ⟨b1, b2, b3, b4⟩ := q
  have sp : ∀ k : Nat, lsR Q g0 g2 k → lsR Q g0 g1 k ∨ lsR Q g1 g2 k := fun k hk => by
    by_cases z : k < g1
    · exact Or.inl ⟨hk.1, z, hk.2.2⟩
    · exact Or.inr ⟨by omega, hk.2.1, hk.2.2⟩
  refine ⟨fun k k1 k2 => ?_, fun j k hj hk hi => ?_, fun pc x p1 p2 p3 p4 p5 p6 p7 k hk k2 k3 => ?_, fun pc s h e p1 p2 p3 p4 p5 p6 p7 p8 => ?_⟩
  · by_cases z : k < g1
    · obtain ⟨x1, x2, x3, x4, x5⟩ := a1 k k1 z
      exact ⟨x1, x2, by omega, x4, fun w => ⟨(x5 w).1, by have := (x5 w).2; omega⟩⟩
    · obtain ⟨x1, x2, x3, x4, x5⟩ := b1 k (by omega) k2
      exact ⟨by omega, x2, x3, x4, x5⟩
  · rcases sp j hj with j1 | j1 <;> rcases sp k hk with k1 | k1
    · exact a2 j k j1 k1 hi
    · have x1 := a1 j j1.1 j1.2.1
      have y1 := b1 k k1.1 k1.2.1
      unfold inR at hi
      omega
    · have x1 := b1 j j1.1 j1.2.1
      have y1 := a1 k k1.1 k1.2.1
      unfold inR at hi
      omega
    · exact b2 j k j1 k1 hi
  · rcases sp k hk with k1 | k1
    · have y1 := a1 k k1.1 k1.2.1
      by_cases z : pc < c1
      · exact a3 pc x p1 z p3 p4 p5 p6 p7 k k1 k2 k3
      · unfold inR at k2; omega
    · have y1 := b1 k k1.1 k1.2.1
      by_cases z : pc < c1
      · unfold inR at k2; omega
      · exact b3 pc x (by omega) p2 p3 p4 p5 p6 p7 k k1 k2 k3
  · by_cases z : pc < c1
    · obtain ⟨x1, x2, x3, x4⟩ := a4 pc s h e p1 z p3 p4 p5 p6 p7 p8
      refine ⟨x1, x2, fun j hj he => ?_, fun k hk hi => ?_⟩
      · rcases sp j hj with j1 | j1
        · exact x3 j j1 he
        · have y1 := b1 j j1.1 j1.2.1
          omega
      · rcases sp k hk with k1 | k1
        · exact x4 k k1 hi
        · have y1 := b1 k k1.1 k1.2.1
          unfold inR at hi; omega
    · obtain ⟨x1, x2, x3, x4⟩ := b4 pc s h e (by omega) p2 p3 p4 p5 p6 p7 p8
      refine ⟨by omega, x2, fun j hj he => ?_, fun k hk hi => ?_⟩
      · rcases sp j hj with j1 | j1
        · have y1 := a1 j j1.1 j1.2.1
          omega
        · exact x3 j j1 he
      · rcases sp k hk with k1 | k1
        · have y1 := a1 k k1.1 k1.2.1
          unfold inR at hi; omega
        · exact x4 k k1 hi
theorem lsR.of {Q Q1 : RX} {k : Nat} (e : Q1.2.2.2.2.1 k = Q.2.2.2.2.1 k) (h : lsR Q1 g0 g1 k) : lsR Q g0 g1 k := ⟨h.1, h.2.1, e.symm.trans h.2.2⟩
/-- a try with a LAST: its region k9 lies over the piece from c0 to h9, its LAST from there to e9 -/
theorem PcR.last {h9 e9 s9 : Nat} (b : PcR A Q O L pd c0 h9 g0 g1 hd) (l : PcR A Q O L pd h9 e9 (g1 + 1) g2 (hd + 2)) (h1 : c0 < h9) (h2 : h9 ≤ e9) (h3 : g0 ≤ g1) (h4 : g1 + 1 ≤ g2) (hs : s9 < 10000)
    (n1 : Q.1 g1 = c0) (n2 : Q.2.1 g1 = h9) (n3 : Q.2.2.1 g1 = h9) (n4 : Q.2.2.2.1 g1 = s9) (n5 : hd = s9) (n6 : Q.2.2.2.2.2 g1 = e9)
    (hl : ∀ pc x : Nat, c0 ≤ pc → pc < h9 → (A pc).1 = 1 → O pc = nI 28 → ¬ pd pc → x < 10000 → L pc = nI x → pc < x ∧ x < h9)
    (he : O e9 = nI 30 ∧ L e9 = nI s9) (ha : ∀ h e : Nat, e ≤ 1 → (A e9).1 = 1 → (A e9).2.2.1 s9 = 1000 + 2 * h + e → h = h9) : PcR A Q O L pd c0 (e9 + 1) g0 g2 hd := by
  obtain ⟨a1, a2, a3, a4⟩ := b
  obtain ⟨b1, b2, b3, b4⟩ := l
  have sp : ∀ k : Nat, lsR Q g0 g2 k → lsR Q g0 g1 k ∨ k = g1 ∨ lsR Q (g1 + 1) g2 k := fun k hk => by
    by_cases z : k < g1
    · exact Or.inl ⟨hk.1, z, hk.2.2⟩
    · by_cases y : k = g1
      · exact Or.inr (Or.inl y)
      · exact Or.inr (Or.inr ⟨by omega, hk.2.1, hk.2.2⟩)
  refine ⟨fun k k1 k2 => ?_, fun j k hj hk hi => ?_, fun pc x p1 p2 p3 p4 p5 p6 p7 k hk k2 k3 => ?_, fun pc s h e p1 p2 p3 p4 p5 p6 p7 p8 => ?_⟩
  · by_cases z : k < g1
    · obtain ⟨x1, x2, x3, x4, x5⟩ := a1 k k1 z
      exact ⟨x1, x2, by omega, x4, fun w => ⟨(x5 w).1, by have := (x5 w).2; omega⟩⟩
    · by_cases y : k = g1
      · subst y; exact ⟨by omega, by omega, by omega, by omega, fun _ => by omega⟩
      · obtain ⟨x1, x2, x3, x4, x5⟩ := b1 k (by omega) k2
        exact ⟨by omega, x2, by omega, by omega, fun w => ⟨(x5 w).1, by have := (x5 w).2; omega⟩⟩
  · rcases sp j hj with j1 | j1 | j1 <;> rcases sp k hk with k1 | k1 | k1
    · exact a2 j k j1 k1 hi
    · subst k1
      have x1 := a1 j j1.1 j1.2.1
      refine Or.inl (fun pc hp => ?_)
      unfold inR at hp ⊢
      omega
    · have x1 := a1 j j1.1 j1.2.1
      have y1 := b1 k k1.1 k1.2.1
      unfold inR at hi
      omega
    · subst j1
      have y1 := a1 k k1.1 k1.2.1
      unfold inR at hi
      omega
    · subst j1; subst k1
      unfold inR at hi
      omega
    · subst j1
      have y1 := b1 k k1.1 k1.2.1
      have y2 := y1.2.2.2.2 k1.2.2
      exact Or.inr ⟨by omega, by omega⟩
    · have x1 := b1 j j1.1 j1.2.1
      have y1 := a1 k k1.1 k1.2.1
      unfold inR at hi
      omega
    · subst k1
      have x1 := b1 j j1.1 j1.2.1
      unfold inR at hi
      omega
    · exact b2 j k j1 k1 hi
  · by_cases z : pc < h9
    · rcases sp k hk with k1 | k1 | k1
      · exact a3 pc x p1 z p3 p4 p5 p6 p7 k k1 k2 k3
      · subst k1
        have w := hl pc x p1 z p3 p4 p5 p6 p7
        refine absurd ?_ k3
        unfold inR
        omega
      · have y1 := b1 k k1.1 k1.2.1
        unfold inR at k2
        omega
    · rcases sp k hk with k1 | k1 | k1
      · have y1 := a1 k k1.1 k1.2.1
        unfold inR at k2
        omega
      · subst k1
        unfold inR at k2
        omega
      · have y1 := b1 k k1.1 k1.2.1
        by_cases y : pc = e9
        · subst y
          rw [he.1] at p4
          exact absurd p4 (by decide)
        · exact b3 pc x (by omega) (by omega) p3 p4 p5 p6 p7 k k1 k2 k3
  · by_cases z : pc < h9
    · obtain ⟨x1, x2, x3, x4⟩ := a4 pc s h e p1 z p3 p4 p5 p6 p7 p8
      refine ⟨x1, x2, fun j hj hj2 => ?_, fun k hk hi => ?_⟩
      · rcases sp j hj with j1 | j1 | j1
        · exact x3 j j1 hj2
        · subst j1; omega
        · have y1 := b1 j j1.1 j1.2.1
          omega
      · rcases sp k hk with k1 | k1 | k1
        · exact x4 k k1 hi
        · subst k1
          unfold inR at hi ⊢
          omega
        · have y1 := b1 k k1.1 k1.2.1
          unfold inR at hi
          omega
    · by_cases y : pc = e9
      · subst y
        have es : s = s9 := (nI_eq (by omega) (by omega)).mp (p6.symm.trans he.2)
        subst es
        have eh := ha h e p7 p3 p8
        subst eh
        refine ⟨by omega, by omega, fun j hj hj2 => ?_, fun k hk hi => ?_⟩
        · rcases sp j hj with j1 | j1 | j1
          · have y1 := a1 j j1.1 j1.2.1
            omega
          · subst j1; exact ⟨by omega, by omega⟩
          · have y1 := b1 j j1.1 j1.2.1
            omega
        · rcases sp k hk with k1 | k1 | k1
          · have y1 := a1 k k1.1 k1.2.1
            unfold inR at hi
            omega
          · subst k1
            unfold inR at hi
            omega
          · have y1 := b1 k k1.1 k1.2.1
            unfold inR at hi
            omega
      · obtain ⟨x1, x2, x3, x4⟩ := b4 pc s h e (by omega) (by omega) p3 p4 p5 p6 p7 p8
        refine ⟨by omega, x2, fun j hj hj2 => ?_, fun k hk hi => ?_⟩
        · rcases sp j hj with j1 | j1 | j1
          · have y1 := a1 j j1.1 j1.2.1
            omega
          · subst j1; omega
          · exact x3 j j1 hj2
        · rcases sp k hk with k1 | k1 | k1
          · have y1 := a1 k k1.1 k1.2.1
            unfold inR at hi
            omega
          · subst k1
            unfold inR at hi
            omega
          · exact x4 k k1 hi
end XA

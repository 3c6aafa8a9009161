def esr (r : Nat) : Nat := if r = 2 ∨ r = 5 ∨ r = 6 then 3 else 1
def bdr (r : Nat) : Nat := if r = 1 then 20 else if r = 2 then 30 else 5000
/-- what stood is of the same sort, its ghost is the same; a node is of the same kind -/
def WX (K K1 : PK) (g g1 : Nat → Nat → Nat) : Prop := ∀ p : Nat, ¬ K.1 p = 0 → K1.1 p = K.1 p ∧ (∀ i : Nat, g1 i p = g i p) ∧ (K.1 p = 1 → K1.2.1 0 p = K.2.1 0 p)
def LsO (G : pT) (K : PK) (g : Nat → Nat → Nat) (q : Nat) : Prop := ∃ (n : Nat) (it : Nat → Nat) (cap : Nat), LsC G K q (esr (g 3 q)) n it cap ∧ n ≤ bdr (g 3 q) ∧ cap ≤ 10 + 2 * n
def Own (K : PK) (g : Nat → Nat → Nat) (o : Option Nat) (q r : Nat) : Prop := ∃ x : Nat, o = some x ∧ K.1 x = 5 ∧ g 3 x = r ∧ g 4 x = q
def DcO (K : PK) (g : Nat → Nat → Nat) (q : Nat) : Prop := Own K g (K.2.2.1 8 q) q 1 ∧ Own K g (K.2.2.1 9 q) q 2 ∧ Own K g (K.2.2.1 11 q) q 4 ∧ Own K g (K.2.2.1 12 q) q 5 ∧ (∀ d : Nat, K.2.2.1 10 q = some d → K.1 d = 4) ∧ (1 ≤ g 5 q → K.2.1 19 q = -1 ∧ K.2.1 21 q = 0 ∧ K.2.1 18 q = 0) ∧ (g 5 q = 2 → K.2.2.2.1 q = 0 ∧ K.2.2.1 10 q = none)
def MtO (K : PK) (g : Nat → Nat → Nat) (q : Nat) : Prop := Own K g (K.2.2.1 6 q) q 3 ∧ (∃ d : Nat, K.2.2.1 5 q = some d ∧ K.1 d = 4) ∧ (∀ b : Nat, K.2.2.1 7 q = some b → K.1 b = 1 ∧ 1 ≤ g 0 b ∧ g 0 b ≤ 231 ∧ K.2.1 0 b = 21) ∧ ∃ n : Nat, n ≤ 1000 ∧ K.2.1 12 q = nI n
def WPr (G : pT) (K : PK) (g : Nat → Nat → Nat) : Prop := WN K g ∧ (∀ q : Nat, K.1 q = 5 → LsO G K g q) ∧ (∀ q : Nat, K.1 q = 4 → DcO K g q) ∧ (∀ q : Nat, K.1 q = 3 → MtO K g q)
section EP
variable {G : pT} {K K1 K2 : PK} {g g1 g2 : Nat → Nat → Nat} {p q r x es n cap : Nat} {it : Nat → Nat}
theorem esr_es (r : Nat) : esr r = 1 ∨ esr r = 3 := by
  unfold esr
  by_cases h : r = 2 ∨ r = 5 ∨ r = 6
  · rw [if_pos h]; exact Or.inr rfl
  · rw [if_neg h]; exact Or.inl rfl
theorem XtG.wx (h : XtG K K1 g g1) : WX K K1 g g1 := fun p hp => ⟨(h.1 p hp).1, h.2 p hp, fun _ => (h.1 p hp).2.1 0⟩
theorem WX.trans (h : WX K K1 g g1) (h2 : WX K1 K2 g1 g2) : WX K K2 g g2 := fun p hp => by
  obtain ⟨a1, a2, a3⟩ := h p hp
  obtain ⟨b1, b2, b3⟩ := h2 p (by rw [a1]; exact hp)
  exact ⟨b1.trans a1, fun i => (b2 i).trans (a2 i), fun z => (b3 (a1.trans z)).trans (a3 z)⟩
theorem Own.wx {o : Option Nat} (hx : WX K K1 g g1) (h : Own K g o q r) : Own K1 g1 o q r := by
  obtain ⟨x, h1, h2, h3, h4⟩ := h
  obtain ⟨a1, a2, -⟩ := hx x (by rw [h2]; decide)
  exact ⟨x, h1, a1.trans h2, (a2 3).trans h3, (a2 4).trans h4⟩
theorem DcO.wx (hx : WX K K1 g g1) (hT : K.1 q = 4) (hs : Sm K K1 q) (h : DcO K g q) : DcO K1 g1 q := by
  obtain ⟨h1, h2, h3, h4, h5, h6, h7⟩ := h
  have hc := hs.2.2.1
  have gq := (hx q (by rw [hT]; decide)).2.1 5
  unfold DcO
  rw [hc 8, hc 9, hc 11, hc 12, hc 10, hs.2.1, hs.2.1, hs.2.1, hs.2.2.2.1, gq]
  exact ⟨h1.wx hx, h2.wx hx, h3.wx hx, h4.wx hx, fun d hd => (hx d (by rw [h5 d hd]; decide)).1.trans (h5 d hd), h6, h7⟩
theorem MtO.wx (hx : WX K K1 g g1) (hs : Sm K K1 q) (h : MtO K g q) : MtO K1 g1 q := by
  obtain ⟨h1, ⟨d, h2, h3⟩, h4, h5⟩ := h
  have hc := hs.2.2.1
  unfold MtO
  rw [hc 6, hc 5, hc 7, hs.2.1]
  refine ⟨h1.wx hx, ⟨d, h2, (hx d (by rw [h3]; decide)).1.trans h3⟩, fun b hb => ?_, h5⟩
  obtain ⟨b1, b2, b3, b4⟩ := h4 b hb
  obtain ⟨c1, c2, c3⟩ := hx b (by rw [b1]; decide)
  exact ⟨c1.trans b1, by rw [c2]; exact b2, by rw [c2]; exact b3, (c3 b1).trans b4⟩
theorem LsC.wx (hT : ∀ p : Nat, ¬ K.1 p = 0 → K1.1 p = K.1 p) (hes : ¬ es = 0) (hq : Sm K K1 q) (hr : ∀ e : Nat, K.1 e = 6 → K.2.2.1 17 e = some q → Sm K K1 e) (h : LsC G K q es n it cap) : LsC G K1 q es n it cap := by
  obtain ⟨h1, h2, h3, h4⟩ := h
  obtain ⟨s1, s2, s3, -, -, -⟩ := hq
  refine ⟨s1.trans h1, (s2 23).trans h2, h3, ?_⟩
  rcases h4 with ⟨a1, a2⟩ | ⟨e9, a1, a2, a3, a4, a5, a6, a7, a8⟩
  · exact Or.inl ⟨(s3 13).trans a1, a2⟩
  · obtain ⟨t1, t2, t3, t4, t5, t6⟩ := hr e9 a2 a3
    refine Or.inr ⟨e9, (s3 13).trans a1, t1.trans a2, (t3 17).trans a3, t6.trans a4, a5, a6, a7, fun i hi => ?_⟩
    obtain ⟨b1, b2⟩ := a8 i hi
    rw [t5]
    exact ⟨b1, (hT (it i) (by rw [b2]; exact hes)).trans b2⟩
theorem esr_ne (r : Nat) : ¬ esr r = 0 := by rcases esr_es r with h | h <;> rw [h] <;> decide
theorem LsO.wx (hx : WX K K1 g g1) (hT : K.1 q = 5) (hq : Sm K K1 q) (hr : ∀ e : Nat, K.1 e = 6 → K.2.2.1 17 e = some q → Sm K K1 e) (h : LsO G K g q) : LsO G K1 g1 q := by
  obtain ⟨n, it, cap, h1, h2⟩ := h
  have e := (hx q (by rw [hT]; decide)).2.1 3
  refine ⟨n, it, cap, ?_, ?_⟩
  · rw [e]; exact LsC.wx (fun p hp => (hx p hp).1) (esr_ne _) hq hr h1
  · rw [e]; exact h2
theorem NdO.wx (hx : WX K K1 g g1) (hT : K.1 q = 1) (hq : Sm K K1 q) (h : NdO K g q) : NdO K1 g1 q := by
  obtain ⟨a1, a2, a3, a4, a5⟩ := h
  obtain ⟨s1, s2, s3, -, -, -⟩ := hq
  have gq := (hx q (by rw [hT]; decide)).2.1
  refine ⟨?_, fun f y hf hy => ?_, fun y hy => ?_, ?_, fun o ho => ?_⟩
  · rw [s2]; simp only [s3]; exact a1
  · rw [s3] at hy
    obtain ⟨c1, c2, c3, c4⟩ := a2 f y hf hy
    obtain ⟨d1, d2, d3⟩ := hx y (by rw [c1]; decide)
    rw [d2, d2, d2, gq, gq, s2, d3 c1]
    exact ⟨d1.trans c1, c2, c3, c4⟩
  · rw [s3] at hy
    obtain ⟨c1, c2, c3⟩ := a3 y hy
    obtain ⟨d1, d2, d3⟩ := hx y (by rw [c1]; decide)
    rw [d2, d2, d2, gq, gq]
    exact ⟨d1.trans c1, c2, c3⟩
  · rw [gq, s2]; exact a4
  · rw [gq] at ho
    obtain ⟨c1, c2, c3⟩ := a5 o ho
    obtain ⟨d1, d2, d3⟩ := hx o (by rw [c1]; decide)
    rw [d2, d2, gq, gq, d3 c1, s2]
    exact ⟨d1.trans c1, c2, c3⟩
/-- new nodes alone -/
theorem WPr.nodes (h : WPr G K g) (hw : WN K1 g1) (hx : XtG K K1 g g1) (hn : ∀ x : Nat, K.1 x = 0 → ¬ K1.1 x = 0 → K1.1 x = 1) : WPr G K1 g1 := by
  obtain ⟨h1, h3, h4, h5⟩ := h
  have hwx := hx.wx
  have old : ∀ x s : Nat, K1.1 x = s → ¬ s = 0 → ¬ s = 1 → ¬ K.1 x = 0 ∧ K.1 x = s := fun x s hs hs0 hs1 => by
    have hx0 : ¬ K.1 x = 0 := fun z => hs1 (hs.symm.trans (hn x z (by rw [hs]; exact hs0)))
    exact ⟨hx0, (hx.1 x hx0).1.symm.trans hs⟩
  refine ⟨hw, fun q hq => ?_, fun q hq => ?_, fun q hq => ?_⟩
  · obtain ⟨z, zq⟩ := old q 5 hq (by decide) (by decide)
    exact LsO.wx hwx zq (hx.1 q z) (fun e he _ => hx.1 e (by rw [he]; decide)) (h3 q zq)
  · obtain ⟨z, zq⟩ := old q 4 hq (by decide) (by decide)
    exact DcO.wx hwx zq (hx.1 q z) (h4 q zq)
  · obtain ⟨z, zq⟩ := old q 3 hq (by decide) (by decide)
    exact MtO.wx hwx (hx.1 q z) (h5 q zq)
/-- a list takes one more -/
theorem AdQ.wx (h : AdQ K K1 q) (hq : K.1 q = 5) : WX K K1 g g := fun p hp => by
  refine ⟨(h.1 p hp).1, fun _ => rfl, fun z => ?_⟩
  exact (h.2 p hp (fun e => by rw [e, hq] at z; exact absurd z (by decide)) (fun e => by rw [z] at e; exact absurd e.1 (by decide))).2.1 0
theorem AdQ.sm (h : AdQ K K1 q) (hp : ¬ K.1 p = 0) (hpq : ¬ p = q) (h6 : ¬ K.1 p = 6) : Sm K K1 p := h.2 p hp hpq (fun e => h6 e.1)
theorem N6.old (h : N6 K K1) (ha : AdQ K K1 q) {s : Nat} (hs : K1.1 x = s) (h0 : ¬ s = 0) (h6 : ¬ s = 6) : ¬ K.1 x = 0 ∧ K.1 x = s := by
  have hx0 : ¬ K.1 x = 0 := fun z => by
    rcases h x z with w | w
    · exact h0 (hs.symm.trans w)
    · exact h6 (hs.symm.trans w)
  exact ⟨hx0, (ha.1 x hx0).1.symm.trans hs⟩
theorem WPr.add (h : WPr G K g) (ha : AdQ K K1 q) (hn : N6 K K1) (hq : K.1 q = 5) (hl : LsC G K1 q (esr (g 3 q)) n it cap) (hb : n ≤ bdr (g 3 q) ∧ cap ≤ 10 + 2 * n) : WPr G K1 g := by
  obtain ⟨h1, h3, h4, h5⟩ := h
  have hwx : WX K K1 g g := ha.wx hq
  refine ⟨fun p hp hl0 => ?_, fun p hp => ?_, fun p hp => ?_, fun p hp => ?_⟩
  · obtain ⟨z, zp⟩ := hn.old ha hp (by decide) (by decide)
    exact NdO.wx hwx zp (ha.sm z (fun e => by rw [e, hq] at zp; exact absurd zp (by decide)) (by rw [zp]; decide)) (h1 p zp hl0)
  · by_cases e : p = q
    · subst e; exact ⟨n, it, cap, hl, hb⟩
    · obtain ⟨z, zp⟩ := hn.old ha hp (by decide) (by decide)
      refine LsO.wx hwx zp (ha.sm z e (by rw [zp]; decide)) (fun r hr h17 => ?_) (h3 p zp)
      exact ha.2 r (by rw [hr]; decide) (fun w => by rw [w, hq] at hr; exact absurd hr (by decide)) (fun w => e (Option.some.inj (h17.symm.trans w.2)))
  · obtain ⟨z, zp⟩ := hn.old ha hp (by decide) (by decide)
    exact DcO.wx hwx zp (ha.sm z (fun e => by rw [e, hq] at zp; exact absurd zp (by decide)) (by rw [zp]; decide)) (h4 p zp)
  · obtain ⟨z, zp⟩ := hn.old ha hp (by decide) (by decide)
    exact MtO.wx hwx (ha.sm z (fun e => by rw [e, hq] at zp; exact absurd zp (by decide)) (by rw [zp]; decide)) (h5 p zp)
end EP

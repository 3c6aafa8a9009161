/-! the tree that the reference's parser leaves: rows 9 .. 16 of X (kind, first, token, A, B, C, D, next); a ghost: gh 0 = 8 * parent + place (160000: none), gh 1 = height, gh 2 = place in its list -/
/-- classes of kinds -/
def kcl (c : Nat) (k : Int32) : Bool :=
  if c = 1 then decide (1 ≤ k) && decide (k ≤ 23)
  else if c = 3 then decide (31 ≤ k) && decide (k ≤ 43)
  else if c = 7 then decide (30 ≤ k) && decide (k ≤ 43)
  else if c = 8 then k == 44
  else if c = 10 then k == 31
  else if c = 12 then k == 6 || k == 12 || k == 15
  else if c = 13 then k == 7 || k == 8 || k == 14
  else if c = 14 then k == 30 || k == 32
  else if c = 15 then k == 32 || k == 33
  else false
/-- by kind, for A, B, C, D: 0 nothing; 50 a type's number; 51 a token's place; 60 none; else a class, + 100: must be there, + 200: the head of a list -/
def cdT : List (List Nat) := [[], [0, 0, 0, 0], [0, 0, 0, 0], [0, 0, 0, 0], [0, 0, 0, 0], [0, 0, 0, 0], [0, 0, 0, 0], [0, 201, 0, 51], [0, 201, 0, 51], [0, 0, 0, 0], [101, 50, 0, 0], [0, 0, 0, 0], [101, 0, 0, 0], [101, 0, 0, 0], [101, 201, 0, 51], [101, 101, 0, 0], [101, 0, 0, 0], [101, 0, 0, 0], [101, 101, 0, 0], [101, 101, 0, 0], [101, 101, 0, 0], [101, 50, 0, 0], [101, 50, 0, 0], [101, 101, 101, 60], [], [], [], [], [], [], [50, 1, 0, 0], [207, 0, 0, 0], [112, 101, 0, 0], [113, 0, 0, 0], [101, 103, 3, 60], [101, 103, 0, 0], [14, 1, 15, 103], [1, 0, 0, 0], [0, 0, 0, 0], [0, 0, 0, 0], [101, 0, 0, 0], [110, 208, 10, 0], [101, 0, 0, 0], [0, 0, 0, 0], [51, 110, 0, 0]]
def cdOf (k s : Nat) : Nat := (cdT.getD k []).getD (s - 1) 0
/-- what stands in a place -/
def sok (X : Nat → Nat → Int32) (gh : Nat → Nat → Nat) (T wr lo hi op i s cd : Nat) (v : Int32) : Prop :=
  (cd = 50 → ∃ y : Nat, v = nI y ∧ y < wr) ∧ (cd = 51 → (v = -1 ∧ op = i) ∨ ∃ t : Nat, v = nI t ∧ t ≤ T) ∧ (cd = 60 → v = -1) ∧
  (cd ≠ 0 → cd ≠ 50 → cd ≠ 51 → cd ≠ 60 → (v = -1 ∧ (cd < 100 ∨ 200 ≤ cd ∨ op = i)) ∨ ∃ j : Nat, v = nI j ∧ lo ≤ j ∧ j < hi ∧ gh 0 j = 8 * i + (if 200 ≤ cd then 5 else s) ∧ gh 1 j < gh 1 i ∧ kcl (cd % 100) (X 9 j) = true ∧ (200 ≤ cd → gh 2 j = 0))
def lcl (k : Int32) : Nat := if k ≤ 23 then 1 else if k = 44 then 3 else 2
/-- a step down: how much lower (a member of a list of phrases: 8 at least; into the last block of an attempt: a quarter of its height more) -/
def hst (gi gp s : Nat) (ki kp : Int32) : Prop := gi < gp ∧ (s = 5 → lcl ki = 1 → gi + 8 ≤ gp) ∧ (s = 3 → kp = 41 → (gi - 280) / 4 + 1 ≤ (gp - 280) / 4)
set_option maxRecDepth 100000 in
theorem hst.up {gi gp gp' s : Nat} {ki kp : Int32} (h : hst gi gp s ki kp) (g : gp ≤ gp') : hst gi gp' s ki kp := ⟨by have := h.1; omega, fun a b => by have := h.2.1 a b; omega, fun a b => by have := h.2.2 a b; omega⟩
def hdr (k : Int32) : Nat := if k = 31 then 12 else 13
/-- signs between two sides -/
def twoTok (k : Int32) : Bool := k == 258 || k == 259 || k == 38 || k == 124 || k == 94 || k == 60 || k == 62 || k == 256 || k == 257 || k == 262 || k == 263 || k == 264 || k == 43 || k == 45 || k == 42 || k == 47 || k == 37
/-- kinds that there are -/
abbrev kOK (k : Nat) : Prop := 1 ≤ k ∧ (k ≤ 23 ∨ 30 ≤ k)
/-- one node -/
def nxt (X : Nat → Nat → Int32) (gh : Nat → Nat → Nat) (hi i : Nat) : Prop := X 16 i = -1 ∨ ∃ j : Nat, X 16 i = nI j ∧ i < j ∧ j < hi ∧ gh 0 j = gh 0 i ∧ gh 0 i % 8 = 5 ∧ gh 2 j = gh 2 i + 1 ∧ lcl (X 9 j) = lcl (X 9 i)
def conv (X : Nat → Nat → Int32) (gh : Nat → Nat → Nat) (lo hi i : Nat) : Prop := gh 0 i = 160000 ∨ ∃ p s : Nat, lo ≤ p ∧ p < hi ∧ gh 0 i = 8 * p + s ∧ hst (gh 1 i) (gh 1 p) s (X 9 i) (X 9 p) ∧ ((1 ≤ s ∧ s ≤ 4 ∧ X (11 + s) p = nI i) ∨ (s = 5 ∧ ((gh 2 i = 0 ∧ X (hdr (X 9 p)) p = nI i) ∨ ∃ q : Nat, lo ≤ q ∧ q < i ∧ gh 0 q = gh 0 i ∧ X 16 q = nI i)))
def Nok (K : Nat → Int32) (T wr : Nat) (X : Nat → Nat → Int32) (gh : Nat → Nat → Nat) (lo hi op i : Nat) : Prop :=
  (∃ t : Nat, X 10 i = nI t ∧ t ≤ T) ∧ (∃ t : Nat, X 11 i = nI t ∧ t ≤ T ∧ (X 9 i = 18 → twoTok (K t) = true)) ∧ nxt X gh hi i ∧ conv X gh lo hi i ∧
  ∃ k : Nat, X 9 i = nI k ∧ kOK k ∧ k ≤ 44 ∧ ∀ s : Nat, 1 ≤ s → s ≤ 4 → sok X gh T wr lo hi op i s (cdOf k s) (X (11 + s) i)
def Fst (K : Nat → Int32) (T wr : Nat) (X : Nat → Nat → Int32) (gh : Nat → Nat → Nat) (lo hi op : Nat) : Prop := ∀ i : Nat, lo ≤ i → i < hi → Nok K T wr X gh lo hi op i
/-- what Fst reads is the same -/
theorem Fst.same {K : Nat → Int32} {T wr wr' : Nat} {X Y : Nat → Nat → Int32} {gh gh' : Nat → Nat → Nat} {lo lo' hi hi' op : Nat} (h : Fst K T wr X gh lo hi op) (hw : wr ≤ wr') (hl : lo' ≤ lo) (hh : hi ≤ hi')
    (hX : ∀ j i : Nat, 9 ≤ j → j ≤ 16 → lo ≤ i → i < hi → Y j i = X j i) (hg : ∀ j i : Nat, lo ≤ i → i < hi → gh' j i = gh j i) : ∀ i : Nat, lo ≤ i → i < hi → Nok K T wr' Y gh' lo' hi' op i := by
  intro i h1 h2
  obtain ⟨a1, a2, a3, a4, k, b1, b2, b3, b4⟩ := h i h1 h2
  have r : ∀ j, 9 ≤ j → j ≤ 16 → Y j i = X j i := fun j p q => hX j i p q h1 h2
  refine ⟨by rw [r 10 (by omega) (by omega)]; exact a1, by rw [r 11 (by omega) (by omega), r 9 (by omega) (by omega)]; exact a2, ?_, ?_, k, by rw [r 9 (by omega) (by omega)]; exact b1, b2, b3, ?_⟩
  · rcases a3 with e | ⟨j, c1, c2, c3, c4, c5, c6, c7⟩
    · exact Or.inl (by rw [r 16 (by omega) (by omega)]; exact e)
    · exact Or.inr ⟨j, by rw [r 16 (by omega) (by omega)]; exact c1, c2, by omega, by rw [hg 0 j (by omega) c3, hg 0 i h1 h2]; exact c4, by rw [hg 0 i h1 h2]; exact c5, by rw [hg 2 j (by omega) c3, hg 2 i h1 h2]; exact c6, by rw [hX 9 j (by omega) (by omega) (by omega) c3, r 9 (by omega) (by omega)]; exact c7⟩
  · unfold conv
    rw [hg 0 i h1 h2, hg 2 i h1 h2, hg 1 i h1 h2]
    rcases a4 with e | ⟨p, s, c1, c2, c3, c5, c4⟩
    · exact Or.inl e
    · refine Or.inr ⟨p, s, by omega, by omega, c3, by rw [hg 1 p c1 c2, r 9 (by omega) (by omega), hX 9 p (by omega) (by omega) c1 c2]; exact c5, ?_⟩
      rcases c4 with ⟨d1, d2, d3⟩ | ⟨d1, d2⟩
      · exact Or.inl ⟨d1, d2, by rw [hX (11 + s) p (by omega) (by omega) c1 c2]; exact d3⟩
      · refine Or.inr ⟨d1, ?_⟩
        rcases d2 with ⟨e1, e2⟩ | ⟨q, e1, e2, e3, e4⟩
        · refine Or.inl ⟨e1, ?_⟩
          rw [hX 9 p (by omega) (by omega) c1 c2]
          have hh' : 9 ≤ hdr (X 9 p) ∧ hdr (X 9 p) ≤ 16 := by unfold hdr; split <;> omega
          rw [hX _ p hh'.1 hh'.2 c1 c2]; exact e2
        · exact Or.inr ⟨q, by omega, e2, by rw [hg 0 q e1 (by omega)]; exact e3, by rw [hX 16 q (by omega) (by omega) e1 (by omega)]; exact e4⟩
  · intro s s1 s4
    rw [r (11 + s) (by omega) (by omega)]
    obtain ⟨d1, d2, d3, d4⟩ := b4 s s1 s4
    refine ⟨fun e => ?_, d2, d3, fun e1 e2 e3 e4 => ?_⟩
    · obtain ⟨y, y1, y2⟩ := d1 e; exact ⟨y, y1, by omega⟩
    · rcases d4 e1 e2 e3 e4 with z | ⟨j, f1, f2, f3, f4, f5, f6, f7⟩
      · exact Or.inl z
      · exact Or.inr ⟨j, f1, by omega, by omega, by rw [hg 0 j f2 f3]; exact f4, by rw [hg 1 j f2 f3, hg 1 i h1 h2]; exact f5, by rw [hX 9 j (by omega) (by omega) f2 f3]; exact f6, fun q => by rw [hg 2 j f2 f3]; exact f7 q⟩
/-- roots, and how high they are at most -/
def isRt (gh : Nat → Nat → Nat) (lo hi : Nat) (q : Nat × Nat) : Prop := lo ≤ q.1 ∧ q.1 < hi ∧ gh 0 q.1 = 160000 ∧ gh 1 q.1 ≤ q.2
def Frs (K : Nat → Int32) (T wr : Nat) (X : Nat → Nat → Int32) (lo hi op : Nat) (rs : List (Nat × Nat)) : Prop := ∃ gh : Nat → Nat → Nat, Fst K T wr X gh lo hi op ∧ ∀ q ∈ rs, isRt gh lo hi q
/-- a list is being made: node n, its last member la -/
def FrL (K : Nat → Int32) (T wr : Nat) (X : Nat → Nat → Int32) (lo hi op n h la lc : Nat) : Prop := ∃ gh : Nat → Nat → Nat, Fst K T wr X gh lo hi op ∧ isRt gh lo hi (n, h) ∧ lo ≤ la ∧ la < hi ∧ gh 0 la = 8 * n + 5 ∧ X 16 la = -1 ∧ lcl (X 9 la) = lc ∧ gh 1 la < gh 1 n
section TR
variable {K : Nat → Int32} {T wr wr' : Nat} {X Y : Nat → Nat → Int32} {lo mid hi op n c h h' hc k s la lc : Nat} {rs rs' : List (Nat × Nat)}
theorem Frs.nil : Frs K T wr X lo lo op [] := ⟨fun _ _ => 0, fun i h1 h2 => absurd h2 (by omega), fun q hq => by simp at hq⟩
theorem Frs.sub (h : Frs K T wr X lo hi op rs) (hs : ∀ q ∈ rs', ∃ z ∈ rs, q.1 = z.1 ∧ z.2 ≤ q.2) : Frs K T wr X lo hi op rs' := by
  obtain ⟨gh, a, b⟩ := h
  refine ⟨gh, a, fun q hq => ?_⟩
  obtain ⟨z, z1, z2, z3⟩ := hs q hq
  obtain ⟨c1, c2, c3, c4⟩ := b z z1
  unfold isRt
  rw [z2]
  exact ⟨c1, c2, c3, by omega⟩
theorem Frs.same (h : Frs K T wr X lo hi op rs) (hw : wr ≤ wr') (hX : ∀ j i : Nat, 9 ≤ j → j ≤ 16 → lo ≤ i → i < hi → Y j i = X j i) : Frs K T wr' Y lo hi op rs := by
  obtain ⟨gh, a, b⟩ := h
  exact ⟨gh, Fst.same a hw (Nat.le_refl _) (Nat.le_refl _) hX (fun _ _ _ _ => rfl), b⟩
theorem FrL.same (h : FrL K T wr X lo hi op n h' la lc) (hw : wr ≤ wr') (hX : ∀ j i : Nat, 9 ≤ j → j ≤ 16 → lo ≤ i → i < hi → Y j i = X j i) : FrL K T wr' Y lo hi op n h' la lc := by
  obtain ⟨gh, a, b, c1, c2, c3, c4, c5, c6⟩ := h
  exact ⟨gh, Fst.same a hw (Nat.le_refl _) (Nat.le_refl _) hX (fun _ _ _ _ => rfl), b, c1, c2, c3, by rw [hX 16 la (by omega) (by omega) c1 c2]; exact c4, by rw [hX 9 la (by omega) (by omega) c1 c2]; exact c5, c6⟩
/-- two intervals side by side -/
theorem Fst.join {gh1 gh2 : Nat → Nat → Nat} {op2 : Nat} (a : Fst K T wr X gh1 lo mid op) (b : Fst K T wr X gh2 mid hi op2) (h1 : lo ≤ mid) (h2 : mid ≤ hi) (h3 : hi ≤ op2) : Fst K T wr X (fun j i => if i < mid then gh1 j i else gh2 j i) lo hi op := by
  intro i l1 l2
  by_cases e : i < mid
  · exact Fst.same a (Nat.le_refl _) (Nat.le_refl _) h2 (fun _ _ _ _ _ _ => rfl) (fun j q _ q2 => by show (if q < mid then _ else _) = _; rw [if_pos q2]) i l1 e
  · have w := Fst.same (gh' := fun j i => if i < mid then gh1 j i else gh2 j i) b (Nat.le_refl _) h1 (Nat.le_refl _) (fun _ _ _ _ _ _ => rfl) (fun j q q1 _ => by show (if q < mid then _ else _) = _; rw [if_neg (by omega)]) i (by omega) l2
    obtain ⟨a1, a2, a3, a4, k, b1, b2, b3, b4⟩ := w
    refine ⟨a1, a2, a3, a4, k, b1, b2, b3, fun s s1 s4 => ?_⟩
    obtain ⟨d1, d2, d3, d4⟩ := b4 s s1 s4
    refine ⟨d1, fun e => (d2 e).imp (fun z => absurd z.2 (by omega)) id, d3, fun e1 e2 e3 e4 => (d4 e1 e2 e3 e4).imp (fun z => ⟨z.1, z.2.imp id (fun y => y.imp id (fun y => absurd y (by omega)))⟩) id⟩
theorem Frs.join {op2 : Nat} (a : Frs K T wr X lo mid op rs) (b : Frs K T wr X mid hi op2 rs') (h1 : lo ≤ mid) (h2 : mid ≤ hi) (h3 : hi ≤ op2) : Frs K T wr X lo hi op (rs ++ rs') := by
  obtain ⟨g1, a1, a2⟩ := a
  obtain ⟨g2, b1, b2⟩ := b
  refine ⟨_, Fst.join a1 b1 h1 h2 h3, fun q hq => ?_⟩
  unfold isRt
  rcases List.mem_append.mp hq with z | z
  · obtain ⟨c1, c2, c3, c4⟩ := a2 q z
    simp only [if_pos c2]
    exact ⟨c1, by omega, c3, c4⟩
  · obtain ⟨c1, c2, c3, c4⟩ := b2 q z
    have : ¬ q.1 < mid := by omega
    simp only [if_neg this]
    exact ⟨by omega, c2, c3, c4⟩
/-- a root c becomes a child: the cell (r, m) was none and is c now -/
theorem Fst.att {gh gh' : Nat → Nat → Nat} {r m : Nat} (a : Fst K T wr X gh lo hi op) (hh : hi ≤ 20000) (n0 : gh 0 n = 160000) (c0 : gh 0 c = 160000)
    (hr : 12 ≤ r ∧ r ≤ 16) (hv : X r m = -1) (hY : ∀ j i : Nat, 9 ≤ j → j ≤ 16 → lo ≤ i → i < hi → ¬ (j = r ∧ i = m) → Y j i = X j i)
    (g0 : ∀ i, i ≠ c → gh' 0 i = gh 0 i) (g1 : ∀ i, i ≠ n → gh' 1 i = gh 1 i) (g1n : gh 1 n ≤ gh' 1 n) (g2 : ∀ i, i ≠ c → gh' 2 i = gh 2 i)
    (hcv : conv Y gh' lo hi c)
    (hsl : r ≤ 15 → ∀ k : Nat, k ≤ 44 → Y 9 m = nI k → sok Y gh' T wr lo hi op m (r - 11) (cdOf k (r - 11)) (Y r m))
    (hnx : r = 16 → nxt Y gh' hi m) : Fst K T wr Y gh' lo hi op := by
  intro i l1 l2
  obtain ⟨a1, a2, a3, a4, k, b1, b2, b3, b4⟩ := a i l1 l2
  have y9 : ∀ i, lo ≤ i → i < hi → Y 9 i = X 9 i := fun i p q => hY 9 i (by omega) (by omega) p q (by omega)
  have nm1 : ∀ i, i < hi → ¬ nI i = -1 := fun i q => nI_m1 (by omega)
  refine ⟨by rw [hY 10 i (by omega) (by omega) l1 l2 (by omega)]; exact a1, by rw [hY 11 i (by omega) (by omega) l1 l2 (by omega), y9 i l1 l2]; exact a2, ?_, ?_, k, by rw [y9 i l1 l2]; exact b1, b2, b3, ?_⟩
  · by_cases e : r = 16 ∧ i = m
    · rw [e.2]; exact hnx e.1
    · rcases a3 with z | ⟨j, d1, d2, d3, d4, d5, d6, d7⟩
      · exact Or.inl (by rw [hY 16 i (by omega) (by omega) l1 l2 (by omega)]; exact z)
      · have i1 : i ≠ c := fun q => by rw [q, c0] at d5; omega
        have j1 : j ≠ c := fun q => by rw [q, c0] at d4; omega
        exact Or.inr ⟨j, by rw [hY 16 i (by omega) (by omega) l1 l2 (by omega)]; exact d1, d2, d3, by rw [g0 j j1, g0 i i1]; exact d4, by rw [g0 i i1]; exact d5, by rw [g2 j j1, g2 i i1]; exact d6, by rw [y9 j (by omega) d3, y9 i l1 l2]; exact d7⟩
  · by_cases e : i = c
    · rw [e]; exact hcv
    · unfold conv
      rw [g0 i e, g2 i e]
      rcases a4 with z | ⟨p, s, d1, d2, d3, d5, d4⟩
      · exact Or.inl z
      · have inn : i ≠ n := fun q => by
          rw [q, n0] at d3
          rcases d4 with ⟨e1, e2, _⟩ | ⟨e1, _⟩ <;> omega
        refine Or.inr ⟨p, s, d1, d2, d3, ?_, ?_⟩
        · rw [g1 i inn, y9 i l1 l2, y9 p d1 d2]
          by_cases e9 : p = n
          · rw [e9] at d5 ⊢; exact d5.up g1n
          · rw [g1 p e9]; exact d5
        rcases d4 with ⟨e1, e2, e3⟩ | ⟨e1, e2⟩
        · refine Or.inl ⟨e1, e2, ?_⟩
          rw [hY (11 + s) p (by omega) (by omega) d1 d2 (fun q => by rw [← q.1, ← q.2, e3] at hv; exact nm1 i l2 hv)]; exact e3
        · refine Or.inr ⟨e1, ?_⟩
          rcases e2 with ⟨f1, f2⟩ | ⟨q, f1, f2, f3, f4⟩
          · refine Or.inl ⟨f1, ?_⟩
            rw [y9 p d1 d2]
            have hh' : 9 ≤ hdr (X 9 p) ∧ hdr (X 9 p) ≤ 16 := by unfold hdr; split <;> omega
            rw [hY _ p hh'.1 hh'.2 d1 d2 (fun q => by rw [← q.1, ← q.2, f2] at hv; exact nm1 i l2 hv)]; exact f2
          · have q1 : q ≠ c := fun z => by rw [z, c0] at f3; omega
            exact Or.inr ⟨q, f1, f2, by rw [g0 q q1]; exact f3, by rw [hY 16 q (by omega) (by omega) f1 (by omega) (fun z => by rw [← z.1, ← z.2, f4] at hv; exact nm1 i l2 hv)]; exact f4⟩
  · intro s s1 s4
    by_cases e : r = 11 + s ∧ i = m
    · have z := hsl (by omega) k b3 (by rw [← e.2, y9 i l1 l2]; exact b1)
      rw [e.1, Nat.add_sub_cancel_left] at z
      rw [e.2]; exact z
    · rw [hY (11 + s) i (by omega) (by omega) l1 l2 (by omega)]
      obtain ⟨d1, d2, d3, d4⟩ := b4 s s1 s4
      refine ⟨d1, d2, d3, fun e1 e2 e3 e4 => ?_⟩
      rcases d4 e1 e2 e3 e4 with z | ⟨j, f1, f2, f3, f4, f5, f6, f7⟩
      · exact Or.inl z
      · have j1 : j ≠ c := fun q => by rw [q, c0] at f4; split at f4 <;> omega
        have j2 : j ≠ n := fun q => by rw [q, n0] at f4; split at f4 <;> omega
        refine Or.inr ⟨j, f1, f2, f3, by rw [g0 j j1]; exact f4, ?_, by rw [y9 j f2 f3]; exact f6, fun q => by rw [g2 j j1]; exact f7 q⟩
        rw [g1 j j2]
        by_cases e5 : i = n
        · rw [e5] at f5 ⊢; omega
        · rw [g1 i e5]; exact f5
def ghA (gh : Nat → Nat → Nat) (c w n h x : Nat) : Nat → Nat → Nat := fun j i => if j = 0 ∧ i = c then w else if j = 1 ∧ i = n then h else if j = 2 ∧ i = c then x else gh j i
theorem ghA_0 {gh : Nat → Nat → Nat} {c w n h x i : Nat} (e : i ≠ c) : ghA gh c w n h x 0 i = gh 0 i := by unfold ghA; rw [if_neg (by omega), if_neg (by omega), if_neg (by omega)]
theorem ghA_0c {gh : Nat → Nat → Nat} {c w n h x : Nat} : ghA gh c w n h x 0 c = w := by unfold ghA; rw [if_pos ⟨rfl, rfl⟩]
theorem ghA_1 {gh : Nat → Nat → Nat} {c w n h x i : Nat} (e : i ≠ n) : ghA gh c w n h x 1 i = gh 1 i := by unfold ghA; rw [if_neg (by omega), if_neg (by omega), if_neg (by omega)]
theorem ghA_1n {gh : Nat → Nat → Nat} {c w n h x : Nat} : ghA gh c w n h x 1 n = h := by unfold ghA; rw [if_neg (by omega), if_pos ⟨rfl, rfl⟩]
theorem ghA_2 {gh : Nat → Nat → Nat} {c w n h x i : Nat} (e : i ≠ c) : ghA gh c w n h x 2 i = gh 2 i := by unfold ghA; rw [if_neg (by omega), if_neg (by omega), if_neg (by omega)]
theorem ghA_2c {gh : Nat → Nat → Nat} {c w n h x : Nat} : ghA gh c w n h x 2 c = x := by unfold ghA; rw [if_neg (by omega), if_neg (by omega), if_pos ⟨rfl, rfl⟩]
set_option maxRecDepth 100000 in
/-- a root is put into place s of the root n -/
theorem Fst.slot {gh : Nat → Nat → Nat} (a : Fst K T wr X gh lo hi op) (hh : hi ≤ 20000) (hn : isRt gh lo hi (n, h)) (hcr : isRt gh lo hi (c, hc)) (hne : c ≠ n) (s1 : 1 ≤ s) (s4 : s ≤ 4) (hv : X (11 + s) n = -1) (hk : X 9 n = nI k) (hk9 : k ≤ 44)
    (hcd : cdOf k s ≠ 50 ∧ cdOf k s ≠ 51 ∧ cdOf k s ≠ 60 ∧ kcl (cdOf k s % 100) (X 9 c) = true ∧ (200 ≤ cdOf k s → hdr (nI k) = 11 + s)) (h1 : h ≤ h') (h2 : hc + 1 ≤ h') (h3 : 200 ≤ cdOf k s → lcl (X 9 c) = 1 → hc + 8 ≤ h') (h4 : cdOf k s < 200 → s = 3 → k = 41 → (hc - 280) / 4 + 1 ≤ (h' - 280) / 4)
    (hY : ∀ j i : Nat, 9 ≤ j → j ≤ 16 → lo ≤ i → i < hi → ¬ (j = 11 + s ∧ i = n) → Y j i = X j i) (hYn : Y (11 + s) n = nI c) : Fst K T wr Y (ghA gh c (8 * n + (if 200 ≤ cdOf k s then 5 else s)) n h' 0) lo hi op := by
  obtain ⟨n1, n2, n3, n4⟩ := hn
  obtain ⟨c1, c2, c3, c4⟩ := hcr
  simp only at n1 n2 n3 n4 c1 c2 c3 c4
  have y9 : ∀ i, lo ≤ i → i < hi → Y 9 i = X 9 i := fun i p q => hY 9 i (by omega) (by omega) p q (by omega)
  refine Fst.att (n := n) (c := c) (r := 11 + s) (m := n) a hh n3 c3 (by omega) hv hY (fun i e => ghA_0 e) (fun i e => ghA_1 e) (by rw [ghA_1n]; omega) (fun i e => ghA_2 e) ?_ ?_ (fun e => absurd e (by omega))
  · refine Or.inr ⟨n, _, n1, n2, ghA_0c, ?_, ?_⟩
    · rw [ghA_1n, ghA_1 hne, y9 c c1 c2, y9 n n1 n2, hk]
      refine ⟨by omega, fun a b => ?_, fun a b => ?_⟩
      · by_cases q : 200 ≤ cdOf k s
        · have := h3 q b; omega
        · rw [if_neg q] at a; omega
      · by_cases q : 200 ≤ cdOf k s
        · rw [if_pos q] at a; omega
        · rw [if_neg q] at a
          have := h4 (by omega) a ((nI_eq (by omega) (by omega)).mp b); omega
    by_cases q : 200 ≤ cdOf k s
    · rw [if_pos q]
      refine Or.inr ⟨rfl, Or.inl ⟨ghA_2c, ?_⟩⟩
      rw [y9 n n1 n2, hk, hcd.2.2.2.2 q]; exact hYn
    · rw [if_neg q]
      exact Or.inl ⟨s1, s4, hYn⟩
  · intro _ k' k9 hk'
    have : k' = k := by
      rw [y9 n n1 n2, hk] at hk'
      exact ((nI_eq (by omega) (by omega)).mp hk').symm
    subst this
    rw [Nat.add_sub_cancel_left]
    refine ⟨fun e => absurd e hcd.1, fun e => absurd e hcd.2.1, fun e => absurd e hcd.2.2.1, fun _ _ _ _ => Or.inr ⟨c, hYn, c1, c2, ghA_0c, ?_, by rw [y9 c c1 c2]; exact hcd.2.2.2.1, fun _ => ghA_2c⟩⟩
    rw [ghA_1n, ghA_1 hne]; omega
/-- one cell of one row -/
def stR (X : Nat → Nat → Int32) (r m : Nat) (v : Int32) : Nat → Nat → Int32 := updA X r (upd (X r) m v)
theorem st_eq {r m : Nat} {v : Int32} : stR X r m v r m = v := by unfold stR updA upd; rw [if_pos rfl, if_pos rfl]
theorem st_ne {r m j i : Nat} {v : Int32} (e : ¬ (j = r ∧ i = m)) : stR X r m v j i = X j i := by
  unfold stR updA upd
  by_cases e1 : j = r
  · rw [if_pos e1, if_neg (by omega), e1]
  · rw [if_neg e1]
theorem Frs.set (a : Frs K T wr X lo hi op ((n, h) :: (c, hc) :: rs)) (hh : hi ≤ 20000) (hne : c ≠ n) (hrs : ∀ q ∈ rs, q.1 ≠ c ∧ q.1 ≠ n) (s1 : 1 ≤ s) (s4 : s ≤ 4) (hv : X (11 + s) n = -1) (hk : X 9 n = nI k) (hk9 : k ≤ 44)
    (hcd : cdOf k s ≠ 50 ∧ cdOf k s ≠ 51 ∧ cdOf k s ≠ 60 ∧ kcl (cdOf k s % 100) (X 9 c) = true ∧ (200 ≤ cdOf k s → hdr (nI k) = 11 + s)) (h1 : h ≤ h') (h2 : hc + 1 ≤ h') (h3 : cdOf k s < 200) (h4 : s = 3 → k = 41 → (hc - 280) / 4 + 1 ≤ (h' - 280) / 4) : Frs K T wr (stR X (11 + s) n (nI c)) lo hi op ((n, h') :: rs) := by
  obtain ⟨gh, a1, a2⟩ := a
  have hn := a2 (n, h) (by simp)
  have hcr := a2 (c, hc) (by simp)
  refine ⟨_, Fst.slot a1 hh hn hcr hne s1 s4 hv hk hk9 hcd h1 h2 (fun q => absurd q (by omega)) (fun _ => h4) (fun j i _ _ _ _ e => st_ne e) st_eq, fun q hq => ?_⟩
  rcases List.mem_cons.mp hq with z | z
  · rw [z]
    exact ⟨hn.1, hn.2.1, by rw [ghA_0 hne.symm]; exact hn.2.2.1, by rw [ghA_1n]; exact Nat.le_refl _⟩
  · have w := a2 q (List.mem_cons_of_mem _ (List.mem_cons_of_mem _ z))
    have e := hrs q z
    exact ⟨w.1, w.2.1, by rw [ghA_0 e.1]; exact w.2.2.1, by rw [ghA_1 e.2]; exact w.2.2.2⟩
/-- the head of a list -/
theorem FrL.head (a : Frs K T wr X lo hi op [(n, h), (c, hc)]) (hh : hi ≤ 20000) (hne : c ≠ n) (s1 : 1 ≤ s) (s4 : s ≤ 4) (hv : X (11 + s) n = -1) (hk : X 9 n = nI k) (hk9 : k ≤ 44)
    (hcd : 200 ≤ cdOf k s ∧ kcl (cdOf k s % 100) (X 9 c) = true ∧ hdr (nI k) = 11 + s) (hlc : lcl (X 9 c) = lc) (h1 : h ≤ h') (h2 : hc + 1 ≤ h') (h3 : lc = 1 → hc + 8 ≤ h') : FrL K T wr (stR X (11 + s) n (nI c)) lo hi op n h' c lc := by
  obtain ⟨gh, a1, a2⟩ := a
  have hn := a2 (n, h) (by simp)
  have hcr := a2 (c, hc) (by simp)
  have c9 := a1 c hcr.1 hcr.2.1
  refine ⟨_, Fst.slot a1 hh hn hcr hne s1 s4 hv hk hk9 ⟨by omega, by omega, by omega, hcd.2.1, fun _ => hcd.2.2⟩ h1 h2 (fun _ e => h3 (hlc.symm.trans e)) (fun q => absurd hcd.1 (by omega)) (fun j i _ _ _ _ e => st_ne e) st_eq, ⟨hn.1, hn.2.1, by rw [ghA_0 hne.symm]; exact hn.2.2.1, by rw [ghA_1n]; exact Nat.le_refl _⟩, hcr.1, hcr.2.1, by rw [ghA_0c, if_pos hcd.1], ?_, by rw [st_ne (by omega)]; exact hlc, ?_⟩
  · rw [st_ne (by omega)]
    rcases c9.2.2.1 with z | ⟨j, z⟩
    · exact z
    · have w := hcr.2.2.1
      have v := z.2.2.2.2.1
      simp only at w v
      omega
  · have w := hcr.2.2.2
    simp only at w
    rw [ghA_1n, ghA_1 hne]
    omega
theorem FrL.toFrs (a : FrL K T wr X lo hi op n h la lc) : Frs K T wr X lo hi op [(n, h)] := by
  obtain ⟨gh, a1, a2, _⟩ := a
  exact ⟨gh, a1, fun q hq => by rw [List.mem_singleton.mp hq]; exact a2⟩
/-- one more behind the last -/
theorem FrL.next {op2 : Nat} (a : FrL K T wr X lo mid op n h la lc) (b : Frs K T wr X mid hi op2 [(c, hc)]) (m1 : lo ≤ mid) (m2 : mid ≤ hi) (m3 : hi ≤ op2) (hh : hi ≤ 20000) (hlc : lcl (X 9 c) = lc) (h1 : h ≤ h') (h2 : hc + 1 ≤ h') (h3 : lc = 1 → hc + 8 ≤ h') : FrL K T wr (stR X 16 la (nI c)) lo hi op n h' c lc := by
  obtain ⟨g1, a1, a2, a3, a4, a5, a6, a7, a8⟩ := a
  obtain ⟨g2, b1, b2⟩ := b
  have hcr := b2 (c, hc) (by simp)
  have b9 := b1 c hcr.1 hcr.2.1
  have J := Fst.join a1 b1 m1 m2 m3
  have jn : n < mid := a2.2.1
  have jc : ¬ c < mid := by have := hcr.1; simp only at this; omega
  have cv : mid ≤ c ∧ c < hi ∧ g2 0 c = 160000 ∧ g2 1 c ≤ hc := hcr
  have nv : lo ≤ n ∧ n < mid ∧ g1 0 n = 160000 ∧ g1 1 n ≤ h := a2
  generalize hg : (fun j i => if i < mid then g1 j i else g2 j i) = gh at J
  have e1 : ∀ j i, i < mid → gh j i = g1 j i := fun j i q => by rw [← hg]; exact if_pos q
  have e2 : ∀ j i, ¬ i < mid → gh j i = g2 j i := fun j i q => by rw [← hg]; exact if_neg q
  have cX : X 16 c = -1 := by
    rcases b9.2.2.1 with z | ⟨j, z⟩
    · exact z
    · have v := z.2.2.2.2.1
      have w := cv.2.2.1
      omega
  have lc' : la ≠ c := by omega
  refine ⟨ghA gh c (8 * n + 5) n h' (gh 2 la + 1), Fst.att (n := n) (c := c) (r := 16) (m := la) J hh (by rw [e1 0 n jn]; exact nv.2.2.1) (by rw [e2 0 c jc]; exact cv.2.2.1) (by omega) a6 (fun j i _ _ _ _ e => st_ne e) (fun i e => ghA_0 e) (fun i e => ghA_1 e) (by rw [ghA_1n, e1 1 n jn]; omega) (fun i e => ghA_2 e) ?_ (fun e => absurd e (by omega)) ?_, ⟨nv.1, by show n < hi; omega, by rw [ghA_0 (by show n ≠ c; omega), e1 0 n jn]; exact nv.2.2.1, by rw [ghA_1n]; exact Nat.le_refl _⟩, by omega, cv.2.1, ghA_0c, by rw [st_ne (by omega)]; exact cX, by rw [st_ne (by omega)]; exact hlc, ?_⟩
  · refine Or.inr ⟨n, 5, nv.1, by omega, ghA_0c, ?_, Or.inr ⟨rfl, Or.inr ⟨la, a3, by omega, ?_, st_eq⟩⟩⟩
    · rw [ghA_1n, ghA_1 (show c ≠ n by omega), e2 1 c jc]
      refine ⟨by omega, fun _ b => ?_, fun a => absurd a (by omega)⟩
      rw [st_ne (by omega), hlc] at b
      have := h3 b
      omega
    rw [ghA_0c, ghA_0 lc', e1 0 la a4, a5]
  · intro _
    refine Or.inr ⟨c, st_eq, by omega, cv.2.1, ?_, ?_, ?_, ?_⟩
    · rw [ghA_0c, ghA_0 lc', e1 0 la a4, a5]
    · rw [ghA_0 lc', e1 0 la a4, a5]; omega
    · rw [ghA_2c, ghA_2 lc']
    · rw [st_ne (by omega), st_ne (by omega), hlc, a7]
  · rw [ghA_1n, ghA_1 (by omega), e2 1 c jc]; omega
/-- nothing is wanting any more -/
theorem Frs.close {op2 : Nat} (a : Frs K T wr X lo hi op rs) (hk : lo ≤ op → op < hi → ∃ k : Nat, X 9 op = nI k ∧ k ≤ 44 ∧ ∀ s : Nat, 1 ≤ s → s ≤ 4 → (100 ≤ cdOf k s ∧ cdOf k s < 200) ∨ cdOf k s = 51 → ¬ X (11 + s) op = -1) : Frs K T wr X lo hi op2 rs := by
  obtain ⟨gh, a1, a2⟩ := a
  refine ⟨gh, fun i l1 l2 => ?_, a2⟩
  obtain ⟨b1, b2, b3, b4, k, c1, c2, c3, c4⟩ := a1 i l1 l2
  refine ⟨b1, b2, b3, b4, k, c1, c2, c3, fun s s1 s4 => ?_⟩
  obtain ⟨d1, d2, d3, d4⟩ := c4 s s1 s4
  have key : op = i → (100 ≤ cdOf k s ∧ cdOf k s < 200) ∨ cdOf k s = 51 → ¬ X (11 + s) i = -1 := fun e q => by
    subst e
    obtain ⟨k', e1, e2, e3⟩ := hk l1 l2
    have : k' = k := (nI_eq (by omega) (by omega)).mp (e1.symm.trans c1)
    subst this
    exact e3 s s1 s4 q
  refine ⟨d1, fun e => (d2 e).elim (fun z => absurd z.1 (key z.2 (Or.inr e))) Or.inr, d3, fun e1 e2 e3 e4 => ?_⟩
  rcases d4 e1 e2 e3 e4 with ⟨z1, z2⟩ | z
  · rcases z2 with z2 | z2 | z2
    · exact Or.inl ⟨z1, Or.inl z2⟩
    · exact Or.inl ⟨z1, Or.inr (Or.inl z2)⟩
    · by_cases q : 100 ≤ cdOf k s ∧ cdOf k s < 200
      · exact absurd z1 (key z2 (Or.inl q))
      · exact Or.inl ⟨z1, by omega⟩
  · exact Or.inr z
/-- a new node -/
def NewN (X Y : Nat → Nat → Int32) (m : Nat) (kd fi tk xa xb : Int32) : Prop :=
  (∀ j : Nat, ¬ (9 ≤ j ∧ j ≤ 18) → Y j = X j) ∧ (∀ j i : Nat, i ≠ m → Y j i = X j i) ∧ Y 9 m = kd ∧ Y 10 m = fi ∧ Y 11 m = tk ∧ Y 12 m = xa ∧ Y 13 m = xb ∧ Y 14 m = -1 ∧ Y 15 m = -1 ∧ Y 16 m = -1
def newOK (T wr k s : Nat) (v : Int32) : Prop := (cdOf k s = 50 → ∃ y : Nat, v = nI y ∧ y < wr) ∧ (cdOf k s = 51 → v = -1 ∨ ∃ t : Nat, v = nI t ∧ t ≤ T) ∧ (cdOf k s ≠ 50 → cdOf k s ≠ 51 → v = -1)
theorem newOK.m1 {T wr k s : Nat} (h : cdOf k s ≠ 50) : newOK T wr k s (-1) := ⟨fun e => absurd e h, fun _ => Or.inl rfl, fun _ _ => rfl⟩
theorem Frs.new0 {t f : Nat} {kd : Int32} {xa xb : Int32} (a : Frs K T wr X lo hi op rs) (hop : hi ≤ op) (hlo : lo ≤ hi) (hN : NewN X Y hi kd (nI f) (nI t) xa xb) (hkd : kd = nI k) (k1 : kOK k) (k9 : k ≤ 44) (hf : f ≤ T) (ht : t ≤ T) (h18 : k = 18 → twoTok (K t) = true) (hA : newOK T wr k 1 xa) (hB : newOK T wr k 2 xb) (hC : newOK T wr k 3 (-1)) (hD : newOK T wr k 4 (-1)) : Frs K T wr Y lo (hi + 1) hi ((hi, 0) :: rs) := by
  obtain ⟨gh, a1, a2⟩ := Frs.close (op2 := hi) a (fun _ z => absurd z (by omega))
  obtain ⟨n1, n2, n3, n4, n5, n6, n7, n8, n9, n10⟩ := hN
  refine ⟨fun j i => if i < hi then gh j i else if j = 0 then 160000 else 0, fun i l1 l2 => ?_, fun q hq => ?_⟩
  · by_cases e : i < hi
    · exact Fst.same a1 (Nat.le_refl _) (Nat.le_refl _) (Nat.le_succ _) (fun j i _ _ _ q => n2 j i (by omega)) (fun j i _ q => if_pos q) i l1 e
    · have e' : i = hi := by omega
      subst e'
      have sl : ∀ s v, newOK T wr k s v → sok Y (fun j q => if q < i then gh j q else if j = 0 then 160000 else 0) T wr lo (i + 1) i i s (cdOf k s) v := fun s v q =>
        ⟨q.1, fun e => (q.2.1 e).imp (fun z => ⟨z, rfl⟩) id, fun e => q.2.2 (by omega) (by omega), fun _ e2 e3 _ => Or.inl ⟨q.2.2 e2 e3, Or.inr (Or.inr rfl)⟩⟩
      refine ⟨⟨f, n4, hf⟩, ⟨t, n5, ht, fun e => h18 ((nI_eq (by omega) (by omega)).mp (hkd.symm.trans (n3.symm.trans e)))⟩, Or.inl n10, Or.inl (by simp), k, by rw [n3, hkd], k1, k9, fun s s1 s4 => ?_⟩
      rcases (show s = 1 ∨ s = 2 ∨ s = 3 ∨ s = 4 by omega) with e | e | e | e <;> subst e
      · exact sl 1 _ (by rw [n6]; exact hA)
      · exact sl 2 _ (by rw [n7]; exact hB)
      · exact sl 3 _ (by rw [n8]; exact hC)
      · exact sl 4 _ (by rw [n9]; exact hD)
  · rcases List.mem_cons.mp hq with z | z
    · rw [z]
      exact ⟨hlo, Nat.lt_succ_self _, by simp, by simp⟩
    · obtain ⟨w1, w2, w3, w4⟩ := a2 q z
      exact ⟨w1, by omega, by simp only [if_pos w2]; exact w3, by simp only [if_pos w2]; exact w4⟩
theorem NewN.st {kd fi tk xa xb v : Int32} {m r : Nat} (h : NewN X Y m kd fi tk xa xb) (hr : r = 12 ∨ r = 13) : NewN X (stR Y r m v) m kd fi tk (if r = 12 then v else xa) (if r = 13 then v else xb) := by
  obtain ⟨n1, n2, n3, n4, n5, n6, n7, n8, n9, n10⟩ := h
  have e : ∀ j, j ≠ r → stR Y r m v j m = Y j m := fun j q => st_ne (by omega)
  refine ⟨fun j q => ?_, fun j i q => ?_, by rw [e 9 (by omega)]; exact n3, by rw [e 10 (by omega)]; exact n4, by rw [e 11 (by omega)]; exact n5, ?_, ?_, by rw [e 14 (by omega)]; exact n8, by rw [e 15 (by omega)]; exact n9, by rw [e 16 (by omega)]; exact n10⟩
  · rw [← n1 j q]; unfold stR updA; rw [if_neg (by omega)]
  · rw [st_ne (by omega)]; exact n2 j i q
  · rcases hr with q | q <;> subst q
    · rw [st_eq, if_pos rfl]
    · rw [e 12 (by omega), if_neg (by omega)]; exact n6
  · rcases hr with q | q <;> subst q
    · rw [e 13 (by omega), if_neg (by omega)]; exact n7
    · rw [st_eq, if_pos rfl]
theorem st_st {r m : Nat} {v w : Int32} (e : X r m = w) : ∀ j i : Nat, X j i = stR (stR X r m v) r m w j i := fun j i => by
  by_cases q : j = r ∧ i = m
  · rw [q.1, q.2, st_eq, e]
  · rw [st_ne q, st_ne q]
/-- a new node over a phrase -/
theorem Frs.new1 {t f : Nat} {kd xa xb : Int32} (a : Frs K T wr X lo hi op ((c, hc) :: rs)) (hop : hi ≤ op) (hlo : lo ≤ hi) (hh : hi < 20000) (hN : NewN X Y hi kd (nI f) (nI t) xa xb) (hxa : xa = nI c) (hkd : kd = nI k) (k1 : kOK k) (k9 : k ≤ 44) (hf : f ≤ T) (ht : t ≤ T) (h18 : k ≠ 18) (hrs : ∀ q ∈ rs, q.1 ≠ c)
    (hcd : cdOf k 1 ≠ 50 ∧ cdOf k 1 ≠ 51 ∧ cdOf k 1 ≠ 60 ∧ cdOf k 1 < 200) (hcl : kcl (cdOf k 1 % 100) (X 9 c) = true) (hB : newOK T wr k 2 xb) (hC : newOK T wr k 3 (-1)) (hD : newOK T wr k 4 (-1)) (hh' : hc + 1 ≤ h') : Frs K T wr Y lo (hi + 1) hi ((hi, h') :: rs) := by
  have hc9 : c < hi := by obtain ⟨gh, _, a2⟩ := a; exact (a2 (c, hc) (by simp)).2.1
  have Z := Frs.new0 a hop hlo (hN.st (v := -1) (Or.inl rfl)) hkd k1 k9 hf ht (fun e => absurd e h18) ⟨fun e => absurd e hcd.1, fun _ => Or.inl (if_pos rfl), fun _ _ => if_pos rfl⟩ hB hC hD
  have S := Frs.set (s := 1) (h' := h') Z (by omega) (by omega) (fun q hq => ⟨hrs q hq, by
    obtain ⟨gh, _, a2⟩ := a
    have := (a2 q (List.mem_cons_of_mem _ hq)).2.1
    omega⟩) (by omega) (by omega) st_eq (by rw [st_ne (by omega), hN.2.2.1]; exact hkd) k9 ⟨hcd.1, hcd.2.1, hcd.2.2.1, by rw [st_ne (by omega), hN.2.1 9 c (by omega)]; exact hcl, fun q => absurd q (by omega)⟩ (by omega) hh' hcd.2.2.2 (fun q => absurd q (by omega))
  exact S.same (Nat.le_refl _) (fun j i _ _ _ _ => st_st (hN.2.2.2.2.2.1.trans hxa) j i)
/-- a new node over two phrases -/
theorem Frs.new2 {t f d hd : Nat} {kd xa xb : Int32} (a : Frs K T wr X lo hi op ((c, hc) :: (d, hd) :: rs)) (hop : hi ≤ op) (hlo : lo ≤ hi) (hh : hi < 20000) (hN : NewN X Y hi kd (nI f) (nI t) xa xb) (hxa : xa = nI c) (hxb : xb = nI d) (hne : d ≠ c) (hkd : kd = nI k) (k1 : kOK k) (k9 : k ≤ 44) (hf : f ≤ T) (ht : t ≤ T) (h18 : k = 18 → twoTok (K t) = true) (hrs : ∀ q ∈ rs, q.1 ≠ c ∧ q.1 ≠ d)
    (hcd : cdOf k 1 ≠ 50 ∧ cdOf k 1 ≠ 51 ∧ cdOf k 1 ≠ 60 ∧ cdOf k 1 < 200) (hcd2 : cdOf k 2 ≠ 50 ∧ cdOf k 2 ≠ 51 ∧ cdOf k 2 ≠ 60 ∧ cdOf k 2 < 200) (hcl : kcl (cdOf k 1 % 100) (X 9 c) = true) (hcl2 : kcl (cdOf k 2 % 100) (X 9 d) = true) (hC : newOK T wr k 3 (-1)) (hD : newOK T wr k 4 (-1)) (hh' : hc + 1 ≤ h') (hh2 : hd + 1 ≤ h') : Frs K T wr Y lo (hi + 1) hi ((hi, h') :: rs) := by
  have hc9 : c < hi := by obtain ⟨gh, _, a2⟩ := a; exact (a2 (c, hc) (by simp)).2.1
  have hd9 : d < hi := by obtain ⟨gh, _, a2⟩ := a; exact (a2 (d, hd) (by simp)).2.1
  have hr9 : ∀ q ∈ rs, q.1 < hi := fun q hq => by obtain ⟨gh, _, a2⟩ := a; exact (a2 q (List.mem_cons_of_mem _ (List.mem_cons_of_mem _ hq))).2.1
  have Z := Frs.new0 a hop hlo ((hN.st (v := -1) (Or.inl rfl)).st (v := -1) (Or.inr rfl)) hkd k1 k9 hf ht h18 ⟨fun e => absurd e hcd.1, fun _ => Or.inl rfl, fun _ _ => rfl⟩ ⟨fun e => absurd e hcd2.1, fun _ => Or.inl rfl, fun _ _ => rfl⟩ hC hD
  have S := Frs.set (s := 1) (h' := h') Z (by omega) (by omega) (fun q hq => by
    rcases List.mem_cons.mp hq with z | z
    · rw [z]; exact ⟨hne, by show d ≠ hi; omega⟩
    · have := hr9 q z; exact ⟨(hrs q z).1, by omega⟩) (by omega) (by omega) (by rw [st_ne (by omega)]; exact st_eq) (by rw [st_ne (by omega), st_ne (by omega), hN.2.2.1]; exact hkd) k9 ⟨hcd.1, hcd.2.1, hcd.2.2.1, by rw [st_ne (by omega), st_ne (by omega), hN.2.1 9 c (by omega)]; exact hcl, fun q => absurd q (by omega)⟩ (by omega) hh' hcd.2.2.2 (fun q => absurd q (by omega))
  have S2 := Frs.set (s := 2) (h' := h') S (by omega) (by omega) (fun q hq => ⟨(hrs q hq).2, by have := hr9 q hq; omega⟩) (by omega) (by omega) (by rw [st_ne (by omega)]; exact st_eq) (by rw [st_ne (by omega), st_ne (by omega), st_ne (by omega), hN.2.2.1]; exact hkd) k9 ⟨hcd2.1, hcd2.2.1, hcd2.2.2.1, by rw [st_ne (by omega), st_ne (by omega), st_ne (by omega), hN.2.1 9 d (by omega)]; exact hcl2, fun q => absurd q (by omega)⟩ (Nat.le_refl _) hh2 hcd2.2.2.2 (fun q => absurd q (by omega))
  refine S2.same (Nat.le_refl _) (fun j i _ _ _ _ => ?_)
  have eA : Y 12 hi = nI c := hN.2.2.2.2.2.1.trans hxa
  have eB : Y 13 hi = nI d := hN.2.2.2.2.2.2.1.trans hxb
  by_cases q : j = 13 ∧ i = hi
  · rw [q.1, q.2, st_eq, eB]
  · rw [st_ne (r := 11 + 2) q]
    by_cases q2 : j = 12 ∧ i = hi
    · rw [q2.1, q2.2, st_eq, eA]
    · rw [st_ne (r := 11 + 1) q2, st_ne q, st_ne q2]
/-- the place of a list's end -/
theorem Frs.tok {t : Nat} (a : Frs K T wr X lo hi op rs) (ht : t ≤ T) (hk : X 9 n = nI k) (k9 : k ≤ 44) (hcd : cdOf k 4 = 51) (hv : X 15 n = -1) (hh : hi ≤ 20000) : Frs K T wr (stR X 15 n (nI t)) lo hi op rs := by
  obtain ⟨gh, a1, a2⟩ := a
  refine ⟨gh, fun i l1 l2 => ?_, a2⟩
  obtain ⟨b1, b2, b3, b4, k', c1, c2, c3, c4⟩ := a1 i l1 l2
  have e : ∀ j i, j ≠ 15 → stR X 15 n (nI t) j i = X j i := fun j i q => st_ne (by omega)
  have hx : ∀ z : Nat, z < hi → ¬ X 15 n = nI z := fun z hz q => by
    rw [hv] at q; exact nI_m1 (by omega) q.symm
  refine ⟨by rw [e 10 i (by omega)]; exact b1, by rw [e 11 i (by omega), e 9 i (by omega)]; exact b2, ?_, ?_, k', by rw [e 9 i (by omega)]; exact c1, c2, c3, fun s s1 s4 => ?_⟩
  · unfold nxt
    rw [e 16 i (by omega)]
    rcases b3 with z | ⟨j, z1, z2, z3, z4, z5, z6, z7⟩
    · exact Or.inl z
    · exact Or.inr ⟨j, z1, z2, z3, z4, z5, z6, by rw [e 9 j (by omega), e 9 i (by omega)]; exact z7⟩
  · rcases b4 with z | ⟨p, s, z1, z2, z3, z9, z4⟩
    · exact Or.inl z
    · refine Or.inr ⟨p, s, z1, z2, z3, by rw [e 9 i (by omega), e 9 p (by omega)]; exact z9, ?_⟩
      rcases z4 with ⟨y1, y2, y3⟩ | ⟨y1, y2⟩
      · refine Or.inl ⟨y1, y2, ?_⟩
        rw [st_ne (fun q => hx i l2 (by rw [← q.1, ← q.2]; exact y3))]; exact y3
      · refine Or.inr ⟨y1, ?_⟩
        rcases y2 with ⟨x1, x2⟩ | ⟨q, x1, x2, x3, x4⟩
        · refine Or.inl ⟨x1, ?_⟩
          rw [e 9 p (by omega)]
          have hh' : hdr (X 9 p) ≠ 15 := by unfold hdr; split <;> omega
          rw [e _ p hh']; exact x2
        · exact Or.inr ⟨q, x1, x2, x3, by rw [e 16 q (by omega)]; exact x4⟩
  · obtain ⟨d1, d2, d3, d4⟩ := c4 s s1 s4
    by_cases q : 11 + s = 15 ∧ i = n
    · have ek : k' = k := (nI_eq (by omega) (by omega)).mp (c1.symm.trans (by rw [q.2]; exact hk))
      have es : s = 4 := by omega
      subst ek
      subst es
      rw [q.2]
      exact ⟨fun z => absurd (z.symm.trans hcd) (by decide), fun _ => Or.inr ⟨t, st_eq, ht⟩, fun z => absurd (z.symm.trans hcd) (by decide), fun _ _ z3 _ => absurd hcd z3⟩
    · rw [st_ne q]
      refine ⟨d1, d2, d3, fun z1 z2 z3 z4 => (d4 z1 z2 z3 z4).imp id (fun ⟨j, f1, f2, f3, f4, f5, f6, f7⟩ => ⟨j, f1, f2, f3, f4, f5, by rw [e 9 j (by omega)]; exact f6, f7⟩)⟩
/-- what a node of a phrase says of its first token -/
theorem Frs.first (a : Frs K T wr X lo hi op rs) (h1 : lo ≤ n) (h2 : n < hi) : ∃ t : Nat, t ≤ T ∧ X 10 n = nI t := by
  obtain ⟨gh, a1, _⟩ := a
  obtain ⟨⟨t, b1, b2⟩, _⟩ := a1 n h1 h2
  exact ⟨t, b2, b1⟩
theorem Frs.mem (a : Frs K T wr X lo hi op ((n, h) :: rs)) : lo ≤ n ∧ n < hi := by
  obtain ⟨gh, _, a2⟩ := a
  exact ⟨(a2 (n, h) (by simp)).1, (a2 (n, h) (by simp)).2.1⟩
/-- what stays: rows that the parser does not write; places of types -/
def Kp (B X : Nat → Nat → Int32) (wr T : Nat) : Prop := (∀ j : Nat, ¬ (9 ≤ j ∧ j ≤ 20) → X j = B j) ∧ tkRow (X 19) wr T
def Low (B X : Nat → Nat → Int32) (nd wr : Nat) : Prop := (∀ j i : Nat, 9 ≤ j → j ≤ 18 → i < nd → X j i = B j i) ∧ (∀ j i : Nat, 19 ≤ j → j ≤ 20 → i < wr → X j i = B j i)
variable {B Z : Nat → Nat → Int32} {nd nd' wr2 : Nat}
theorem Kp.rfl (h : tkRow (B 19) wr T) : Kp B B wr T := ⟨fun _ _ => Eq.refl _, h⟩
theorem Kp.trans (a : Kp B X wr T) (b : Kp X Y wr2 T) : Kp B Y wr2 T := ⟨fun j h => (b.1 j h).trans (a.1 j h), b.2⟩
theorem Kp.row {r : Nat} {f : Nat → Int32} (a : Kp B X wr T) (hr : 9 ≤ r ∧ r ≤ 18) : Kp B (updA X r f) wr T := ⟨fun j h => by unfold updA; rw [if_neg (by omega)]; exact a.1 j h, by unfold updA; rw [if_neg (by omega)]; exact a.2⟩
theorem Kp.y {f g : Nat → Int32} (a : Kp B X wr T) (h : tkRow f wr2 T) : Kp B (updA (updA X 19 f) 20 g) wr2 T := ⟨fun j h => by unfold updA; rw [if_neg (by omega), if_neg (by omega)]; exact a.1 j h, by unfold updA; rw [if_neg (by omega), if_pos (Eq.refl _)]; exact h⟩
theorem Kp.new {kd fi tk xa xb : Int32} {m : Nat} (a : Kp B X wr T) (h : NewN X Y m kd fi tk xa xb) : Kp B Y wr T := ⟨fun j q => (h.1 j (by omega)).trans (a.1 j q), by rw [h.1 19 (by omega)]; exact a.2⟩
theorem Low.rfl : Low B B nd wr := ⟨fun _ _ _ _ _ => Eq.refl _, fun _ _ _ _ _ => Eq.refl _⟩
theorem Low.trans (a : Low B X nd wr) (b : Low X Y nd' wr2) (h1 : nd ≤ nd') (h2 : wr ≤ wr2) : Low B Y nd wr := ⟨fun j i p q r => (b.1 j i p q (by omega)).trans (a.1 j i p q r), fun j i p q r => (b.2 j i p q (by omega)).trans (a.2 j i p q r)⟩
theorem Low.st {r m : Nat} {v : Int32} (a : Low B X nd wr) (hr : 9 ≤ r ∧ r ≤ 18) (h : nd ≤ m) : Low B (stR X r m v) nd wr := ⟨fun j i p q z => by rw [st_ne (by omega)]; exact a.1 j i p q z, fun j i p q z => by rw [st_ne (by omega)]; exact a.2 j i p q z⟩
theorem Low.new {kd fi tk xa xb : Int32} {m : Nat} (a : Low B X nd wr) (h : NewN X Y m kd fi tk xa xb) (hm : nd ≤ m) : Low B Y nd wr := ⟨fun j i p q z => (h.2.1 j i (by omega)).trans (a.1 j i p q z), fun j i p q z => by rw [h.1 j (by omega)]; exact a.2 j i p q z⟩
theorem Low.y {f g : Nat → Int32} (a : Low B X nd wr) (h1 : ∀ i : Nat, i < wr → f i = X 19 i) (h2 : ∀ i : Nat, i < wr → g i = X 20 i) : Low B (updA (updA X 19 f) 20 g) nd wr := ⟨fun j i p q z => by unfold updA; rw [if_neg (by omega), if_neg (by omega)]; exact a.1 j i p q z, fun j i p q z => by
  unfold updA
  by_cases e : j = 20
  · rw [if_pos e, h2 i z, ← a.2 j i p q z, e]
  · rw [if_neg e, if_pos (by omega), h1 i z, ← a.2 j i p q z, show j = 19 by omega]⟩
/-- a forest below what is written -/
theorem Frs.low (a : Frs K T wr X lo hi op rs) (b : Low X Y nd wr') (h1 : hi ≤ nd) (h2 : wr ≤ wr2) : Frs K T wr2 Y lo hi op rs := a.same h2 (fun j i p q _ z => b.1 j i p (by omega) (by omega))
theorem FrL.low (a : FrL K T wr X lo hi op n h la lc) (b : Low X Y nd wr') (h1 : hi ≤ nd) (h2 : wr ≤ wr2) : FrL K T wr2 Y lo hi op n h la lc := FrL.same a h2 (fun j i p q _ z => b.1 j i p (by omega) (by omega))
theorem Frs.y {f g : Nat → Int32} (a : Frs K T wr X lo hi op rs) (h2 : wr ≤ wr2) : Frs K T wr2 (updA (updA X 19 f) 20 g) lo hi op rs := a.same h2 (fun j i p q _ z => by unfold updA; rw [if_neg (by omega), if_neg (by omega)])
/-- the places of one node -/
def Nd (X : Nat → Nat → Int32) (n : Nat) (k xa xb xc xd : Int32) : Prop := X 9 n = k ∧ X 12 n = xa ∧ X 13 n = xb ∧ X 14 n = xc ∧ X 15 n = xd
variable {kk xa xb xc xd : Int32}
theorem NewN.toNd {kd fi tk xa xb : Int32} {m : Nat} (h : NewN X Y m kd fi tk xa xb) : Nd Y m kd xa xb (-1) (-1) := ⟨h.2.2.1, h.2.2.2.2.2.1, h.2.2.2.2.2.2.1, h.2.2.2.2.2.2.2.1, h.2.2.2.2.2.2.2.2.1⟩
theorem Nd.low (a : Nd X n kk xa xb xc xd) (b : Low X Y nd wr) (h : n < nd) : Nd Y n kk xa xb xc xd := ⟨(b.1 9 n (by omega) (by omega) h).trans a.1, (b.1 12 n (by omega) (by omega) h).trans a.2.1, (b.1 13 n (by omega) (by omega) h).trans a.2.2.1, (b.1 14 n (by omega) (by omega) h).trans a.2.2.2.1, (b.1 15 n (by omega) (by omega) h).trans a.2.2.2.2⟩
theorem Nd.new {kd fi tk ya yb : Int32} {m : Nat} (a : Nd X n kk xa xb xc xd) (h : NewN X Y m kd fi tk ya yb) (e : n ≠ m) : Nd Y n kk xa xb xc xd := ⟨(h.2.1 9 n e).trans a.1, (h.2.1 12 n e).trans a.2.1, (h.2.1 13 n e).trans a.2.2.1, (h.2.1 14 n e).trans a.2.2.2.1, (h.2.1 15 n e).trans a.2.2.2.2⟩
theorem Nd.y {f g : Nat → Int32} (a : Nd X n kk xa xb xc xd) : Nd (updA (updA X 19 f) 20 g) n kk xa xb xc xd := a
theorem Nd.stn {r m : Nat} {v : Int32} (a : Nd X n kk xa xb xc xd) (e : n ≠ m ∨ r = 16) : Nd (stR X r m v) n kk xa xb xc xd := ⟨by rw [st_ne (by omega)]; exact a.1, by rw [st_ne (by omega)]; exact a.2.1, by rw [st_ne (by omega)]; exact a.2.2.1, by rw [st_ne (by omega)]; exact a.2.2.2.1, by rw [st_ne (by omega)]; exact a.2.2.2.2⟩
theorem Nd.st {r : Nat} {v : Int32} (a : Nd X n kk xa xb xc xd) (e : 12 ≤ r ∧ r ≤ 15) : Nd (stR X r n v) n kk (if r = 12 then v else xa) (if r = 13 then v else xb) (if r = 14 then v else xc) (if r = 15 then v else xd) := by
  obtain ⟨a1, a2, a3, a4, a5⟩ := a
  rcases (show r = 12 ∨ r = 13 ∨ r = 14 ∨ r = 15 by omega) with q | q | q | q <;> subst q <;> exact ⟨by rw [st_ne (by omega)]; exact a1, by first | exact st_eq | (rw [st_ne (by omega)]; exact a2), by first | exact st_eq | (rw [st_ne (by omega)]; exact a3), by first | exact st_eq | (rw [st_ne (by omega)]; exact a4), by first | exact st_eq | (rw [st_ne (by omega)]; exact a5)⟩
def need (k s : Nat) (v : Int32) : Prop := (100 ≤ cdOf k s ∧ cdOf k s < 200) ∨ cdOf k s = 51 → ¬ v = -1
/-- the node that was open is done -/
theorem Frs.fin {op2 : Nat} (a : Frs K T wr X lo hi n rs) (hN : Nd X n kk xa xb xc xd) (hk : kk = nI k) (k9 : k ≤ 44) (hA : need k 1 xa) (hB : need k 2 xb) (hC : need k 3 xc) (hD : need k 4 xd) : Frs K T wr X lo hi op2 rs :=
  a.close (fun _ _ => ⟨k, hN.1.trans hk, k9, fun s s1 s4 q => by
    obtain ⟨_, n1, n2, n3, n4⟩ := hN
    rcases (show s = 1 ∨ s = 2 ∨ s = 3 ∨ s = 4 by omega) with e | e | e | e <;> subst e
    · show ¬ X 12 n = -1; rw [n1]; exact hA q
    · show ¬ X 13 n = -1; rw [n2]; exact hB q
    · show ¬ X 14 n = -1; rw [n3]; exact hC q
    · show ¬ X 15 n = -1; rw [n4]; exact hD q⟩)
theorem Frs.up (a : Frs K T wr X lo hi op [(n, h)]) (e : h ≤ h') : Frs K T wr X lo hi op [(n, h')] := a.sub (fun q hq => ⟨(n, h), by simp, by rw [List.mem_singleton.mp hq], by rw [List.mem_singleton.mp hq]; exact e⟩)
/-- what strength knows -/
def stOK (x : Int32) : Prop := (¬ x = 0 ∧ ¬ x = 3) ∧ (twoTok x || x == 261 || x == 260 || x == 325 || x == 310) = true
theorem stOK_of {x k : Int32} (h : x = k) (hk : stOK k) : stOK x := h ▸ hk
theorem stOK.two {x : Int32} (h : stOK x) (h1 : ¬ x = 261) (h2 : ¬ x = 260) (h3 : ¬ x = 325) (h4 : ¬ x = 310) : twoTok x = true := by
  have w := h.2
  simp only [Bool.or_eq_true, beq_iff_eq] at w
  rcases w with (((w | w) | w) | w) | w
  · exact w
  · exact absurd w h1
  · exact absurd w h2
  · exact absurd w h3
  · exact absurd w h4
end TR

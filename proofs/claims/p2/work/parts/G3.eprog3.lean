def sumN (f : Nat → Nat) : Nat → Nat
  | 0 => 0
  | n + 1 => sumN f n + f n
def szL (K : PK) (q : Nat) : Nat := (K.2.1 23 q).toNatClampNeg
def lsz (K : PK) (o : Option Nat) : Nat := match o with
  | none => 0
  | some x => szL K x
def fz (K : PK) (dr fd k : Nat) : Nat := match K.2.2.2.2.1 dr k with
  | none => 0
  | some d => lsz K (K.2.2.1 fd d)
/-- the Decls of a program -/
def bti (k : Nat) : Nat := if k = 0 then 2 else if k < 7 then 1 else 0
def DcR (K : PK) (g : Nat → Nat → Nat) (dr nd : Nat) : Prop := ∀ k : Nat, k < nd → ∃ d : Nat, K.2.2.2.2.1 dr k = some d ∧ K.1 d = 4 ∧ K.2.1 15 d = nI k ∧ g 5 d = bti k
/-- the numbers of methods -/
def NmO (K : PK) (nm : Nat) (it : Nat → Nat) : Prop := ∀ q : Nat, K.1 q = 3 → K.2.1 9 q = -1 ∨ ∃ j : Nat, j < nm ∧ K.2.1 9 q = nI j ∧ it j = q
/-- its objects -/
def PgB (K : PK) (g : Nat → Nat → Nat) (ax pq dr ml nd : Nat) : Prop := K.1 pq = 7 ∧ K.2.2.1 18 pq = some ax ∧ K.2.2.1 14 pq = some dr ∧ K.1 dr = 8 ∧ K.2.2.1 15 pq = some ml ∧ K.1 ml = 5 ∧ g 3 ml = 6 ∧ K.2.1 24 pq = nI nd ∧ 7 ≤ nd ∧ nd ≤ 37
def PgU (G : pT) (K : PK) (g : Nat → Nat → Nat) (ax pq dr ml nd nm cp : Nat) (it : Nat → Nat) (s : Nat) : Prop := PgB K g ax pq dr ml nd ∧ DcR K g dr nd ∧ LsC G K ml 3 nm it cp ∧ NmO K nm it ∧ 2 * sumN (fz K dr 8) nd + 5 * sumN (fz K dr 9) nd ≤ s ∧ 6 * nm ≤ s ∧ cp ≤ 10 + 2 * nm
def wr (r : Nat) : Nat := if r = 1 then 2 else if r = 2 then 5 else 0
section ER
variable {G : pT} {K K1 K2 : PK} {g g1 g2 : Nat → Nat → Nat} {p q d f o x ax pq dr ml nd nm cp s es n cap k r fd : Nat} {it : Nat → Nat}
theorem sumN_le {f f1 : Nat → Nat} {n : Nat} (h : ∀ k : Nat, k < n → f1 k ≤ f k) : sumN f1 n ≤ sumN f n := by
  induction n with
  | zero => exact Nat.le_refl _
  | succ n ih =>
    have a := ih (fun k hk => h k (by omega))
    have b := h n (by omega)
    show sumN f1 n + f1 n ≤ sumN f n + f n
    omega
theorem sumN_le1 {f f1 : Nat → Nat} {n k0 : Nat} (h : ∀ k : Nat, k < n → ¬ k = k0 → f1 k ≤ f k) (h0 : k0 < n → f1 k0 ≤ f k0 + 1) : sumN f1 n ≤ sumN f n + 1 := by
  induction n with
  | zero => exact Nat.zero_le _
  | succ n ih =>
    show sumN f1 n + f1 n ≤ sumN f n + f n + 1
    by_cases e : n = k0
    · have a : sumN f1 n ≤ sumN f n := sumN_le (fun k hk => h k (by omega) (by omega))
      have b := h0 (by omega)
      rw [← e] at b
      omega
    · have a := ih (fun k hk => h k (by omega)) (fun hk => h0 (by omega))
      have b := h n (by omega) e
      omega
theorem PgU.up {s1 : Nat} (h : PgU G K g ax pq dr ml nd nm cp it s) (hs : s ≤ s1) : PgU G K g ax pq dr ml nd nm cp it s1 := by
  obtain ⟨h1, h2, h3, h4, h5, h6, h7⟩ := h
  exact ⟨h1, h2, h3, h4, by omega, by omega, h7⟩
/-- all that stood stands, nothing new is a Method -/
theorem PgU.ext (h : PgU G K g ax pq dr ml nd nm cp it s) (hw : ∀ q : Nat, K.1 q = 4 → DcO K g q) (hx : ∀ p : Nat, ¬ K.1 p = 0 → Sm K K1 p ∧ ∀ i : Nat, g1 i p = g i p) (hn : ∀ q : Nat, K1.1 q = 3 → K.1 q = 0 → K1.2.1 9 q = -1) : PgU G K1 g1 ax pq dr ml nd nm cp it s := by
  obtain ⟨⟨b1, b2, b3, b4, b5, b6, b7, b8, b9⟩, h2, h3, h4, h5, h6, h7⟩ := h
  have sq := (hx pq (by rw [b1]; decide)).1
  have sr := (hx dr (by rw [b4]; decide)).1
  have sl := hx ml (by rw [b6]; decide)
  have fe : ∀ fd : Nat, (fd = 8 ∨ fd = 9) → ∀ k : Nat, k < nd → fz K1 dr fd k = fz K dr fd k := fun fd hfd k hk => by
    obtain ⟨d, d1, d2, d3⟩ := h2 k hk
    have sd := (hx d (by rw [d2]; decide)).1
    have e1 : ∃ x : Nat, K.2.2.1 fd d = some x ∧ K.1 x = 5 := by
      obtain ⟨⟨x, y1, y2, _⟩, ⟨x', z1, z2, _⟩, _⟩ := hw d d2
      rcases hfd with e | e <;> subst e
      · exact ⟨x, y1, y2⟩
      · exact ⟨x', z1, z2⟩
    obtain ⟨x, e2, e3⟩ := e1
    have sx := (hx x (by rw [e3]; decide)).1
    unfold fz
    rw [sr.2.2.2.2.1, d1]
    show lsz K1 (K1.2.2.1 fd d) = lsz K (K.2.2.1 fd d)
    rw [sd.2.2.1, e2]
    show szL K1 x = szL K x
    unfold szL
    rw [sx.2.1]
  have se : ∀ fd : Nat, (fd = 8 ∨ fd = 9) → sumN (fz K1 dr fd) nd ≤ sumN (fz K dr fd) nd := fun fd hfd => sumN_le (fun k hk => Nat.le_of_eq (fe fd hfd k hk))
  refine ⟨⟨sq.1.trans b1, (sq.2.2.1 18).trans b2, (sq.2.2.1 14).trans b3, sr.1.trans b4, (sq.2.2.1 15).trans b5, sl.1.1.trans b6, (sl.2 3).trans b7, (sq.2.1 24).trans b8, b9⟩, fun k hk => ?_, ?_, fun q hq => ?_, ?_, h6, h7⟩
  · obtain ⟨d, d1, d2, d3⟩ := h2 k hk
    have sd := (hx d (by rw [d2]; decide)).1
    exact ⟨d, by rw [sr.2.2.2.2.1]; exact d1, sd.1.trans d2, (sd.2.1 15).trans d3.1, ((hx d (by rw [d2]; decide)).2 5).trans d3.2⟩
  · exact LsC.wx (fun p hp => (hx p hp).1.1) (by decide) sl.1 (fun e he _ => (hx e (by rw [he]; decide)).1) h3
  · by_cases z : K.1 q = 0
    · exact Or.inl (hn q hq z)
    · have w := (hx q z).1
      rw [w.2.1 9]
      exact h4 q (w.1.symm.trans hq)
  · have y1 := se 8 (Or.inl rfl)
    have y2 := se 9 (Or.inr rfl)
    omega
/-- a list of a Decl or of a Method takes one more -/
theorem PgU.add (h : PgU G K g ax pq dr ml nd nm cp it s) (hw : ∀ q : Nat, K.1 q = 4 → DcO K g q) (ha : AdQ K K1 f) (hn6 : N6 K K1) (hf : K.1 f = 5) (hml : ¬ f = ml) (hsz : szL K1 f = szL K f + 1) (hr : ¬ g 3 f = 6) : PgU G K1 g ax pq dr ml nd nm cp it (s + wr (g 3 f)) := by
  obtain ⟨⟨b1, b2, b3, b4, b5, b6, b7, b8, b9⟩, h2, h3, h4, h5, h6, h7⟩ := h
  have ne : ∀ p s : Nat, K.1 p = s → ¬ s = 5 → ¬ p = f := fun p s hp hs z => hs (by rw [← hp, z]; exact hf)
  have sq := ha.sm (p := pq) (by rw [b1]; decide) (ne pq 7 b1 (by decide)) (by rw [b1]; decide)
  have sr := ha.sm (p := dr) (by rw [b4]; decide) (ne dr 8 b4 (by decide)) (by rw [b4]; decide)
  have sl := ha.sm (p := ml) (by rw [b6]; decide) (fun z => hml z.symm) (by rw [b6]; decide)
  have T : ∀ p : Nat, ¬ K.1 p = 0 → K1.1 p = K.1 p := fun p hp => (ha.1 p hp).1
  have dcs : ∀ k : Nat, k < nd → ∃ d x y : Nat, K.2.2.2.2.1 dr k = some d ∧ K.1 d = 4 ∧ K.2.1 15 d = nI k ∧ Sm K K1 d ∧ (K.2.2.1 8 d = some x ∧ K.1 x = 5 ∧ g 3 x = 1 ∧ g 4 x = d) ∧ (K.2.2.1 9 d = some y ∧ K.1 y = 5 ∧ g 3 y = 2 ∧ g 4 y = d) := fun k hk => by
    obtain ⟨d, d1, d2, d3⟩ := h2 k hk
    obtain ⟨⟨x, y1⟩, ⟨x', z1⟩, _⟩ := hw d d2
    exact ⟨d, x, x', d1, d2, d3.1, ha.sm (by rw [d2]; decide) (ne d 4 d2 (by decide)) (by rw [d2]; decide), y1, z1⟩
  have sx : ∀ x : Nat, K.1 x = 5 → ¬ x = f → szL K1 x = szL K x := fun x hx hn => by
    unfold szL
    rw [(ha.sm (p := x) (by rw [hx]; decide) hn (by rw [hx]; decide)).2.1]
  have f8 : ∀ (k d x : Nat), K.2.2.2.2.1 dr k = some d → Sm K K1 d → K.2.2.1 8 d = some x → fz K1 dr 8 k = szL K1 x ∧ fz K dr 8 k = szL K x := fun k d x e1 e2 e3 => by
    unfold fz
    rw [sr.2.2.2.2.1, e1]
    show lsz K1 (K1.2.2.1 8 d) = _ ∧ lsz K (K.2.2.1 8 d) = _
    rw [e2.2.2.1, e3]
    exact ⟨rfl, rfl⟩
  have f9 : ∀ (k d x : Nat), K.2.2.2.2.1 dr k = some d → Sm K K1 d → K.2.2.1 9 d = some x → fz K1 dr 9 k = szL K1 x ∧ fz K dr 9 k = szL K x := fun k d x e1 e2 e3 => by
    unfold fz
    rw [sr.2.2.2.2.1, e1]
    show lsz K1 (K1.2.2.1 9 d) = _ ∧ lsz K (K.2.2.1 9 d) = _
    rw [e2.2.2.1, e3]
    exact ⟨rfl, rfl⟩
  have kk : ∀ k d : Nat, k < nd → K.2.1 15 d = nI k → (K.2.1 15 d).toNatClampNeg = k := fun k d hk e => by
    rw [e]; exact nI_clamp (by omega)
  have n8 : ¬ g 3 f = 1 → sumN (fz K1 dr 8) nd ≤ sumN (fz K dr 8) nd := fun r1 => sumN_le (fun k hk => by
    obtain ⟨d, x, y, e1, e2, e3, e4, e5, e6⟩ := dcs k hk
    obtain ⟨w1, w2⟩ := f8 k d x e1 e4 e5.1
    rw [w1, w2]
    exact Nat.le_of_eq (sx x e5.2.1 (fun z => by rw [z] at e5; exact r1 e5.2.2.1)))
  have n9 : ¬ g 3 f = 2 → sumN (fz K1 dr 9) nd ≤ sumN (fz K dr 9) nd := fun r2 => sumN_le (fun k hk => by
    obtain ⟨d, x, y, e1, e2, e3, e4, e5, e6⟩ := dcs k hk
    obtain ⟨w1, w2⟩ := f9 k d y e1 e4 e6.1
    rw [w1, w2]
    exact Nat.le_of_eq (sx y e6.2.1 (fun z => by rw [z] at e6; exact r2 e6.2.2.1)))
  have p8 : sumN (fz K1 dr 8) nd ≤ sumN (fz K dr 8) nd + 1 := by
    refine sumN_le1 (k0 := (K.2.1 15 (g 4 f)).toNatClampNeg) (fun k hk hne => ?_) ?_
    · obtain ⟨d, x, y, e1, e2, e3, e4, e5, e6⟩ := dcs k hk
      obtain ⟨w1, w2⟩ := f8 k d x e1 e4 e5.1
      rw [w1, w2]
      refine Nat.le_of_eq (sx x e5.2.1 (fun z => hne ?_))
      have e7 := e5.2.2.2
      rw [z] at e7
      rw [e7]; exact (kk k d hk e3).symm
    · intro hk
      obtain ⟨d, x, y, e1, e2, e3, e4, e5, e6⟩ := dcs _ hk
      obtain ⟨w1, w2⟩ := f8 _ d x e1 e4 e5.1
      rw [w1, w2]
      by_cases z : x = f
      · rw [z, hsz]; exact Nat.le_refl _
      · rw [sx x e5.2.1 z]; omega
  have p9 : sumN (fz K1 dr 9) nd ≤ sumN (fz K dr 9) nd + 1 := by
    refine sumN_le1 (k0 := (K.2.1 15 (g 4 f)).toNatClampNeg) (fun k hk hne => ?_) ?_
    · obtain ⟨d, x, y, e1, e2, e3, e4, e5, e6⟩ := dcs k hk
      obtain ⟨w1, w2⟩ := f9 k d y e1 e4 e6.1
      rw [w1, w2]
      refine Nat.le_of_eq (sx y e6.2.1 (fun z => hne ?_))
      have e7 := e6.2.2.2
      rw [z] at e7
      rw [e7]; exact (kk k d hk e3).symm
    · intro hk
      obtain ⟨d, x, y, e1, e2, e3, e4, e5, e6⟩ := dcs _ hk
      obtain ⟨w1, w2⟩ := f9 _ d y e1 e4 e6.1
      rw [w1, w2]
      by_cases z : y = f
      · rw [z, hsz]; exact Nat.le_refl _
      · rw [sx y e6.2.1 z]; omega
  have hsum : 2 * sumN (fz K1 dr 8) nd + 5 * sumN (fz K1 dr 9) nd ≤ s + wr (g 3 f) := by
    unfold wr
    by_cases r1 : g 3 f = 1
    · rw [if_pos r1]
      have y9 := n9 (by rw [r1]; decide)
      omega
    · rw [if_neg r1]
      have y8 := n8 r1
      by_cases r2 : g 3 f = 2
      · rw [if_pos r2]; omega
      · rw [if_neg r2]
        have y9 := n9 r2
        omega
  refine ⟨⟨sq.1.trans b1, (sq.2.2.1 18).trans b2, (sq.2.2.1 14).trans b3, sr.1.trans b4, (sq.2.2.1 15).trans b5, sl.1.trans b6, b7, (sq.2.1 24).trans b8, b9⟩, fun k hk => ?_, ?_, fun q hq => ?_, hsum, Nat.le_trans h6 (Nat.le_add_right _ _), h7⟩
  · obtain ⟨d, d1, d2, d3⟩ := h2 k hk
    have sd := ha.sm (p := d) (by rw [d2]; decide) (ne d 4 d2 (by decide)) (by rw [d2]; decide)
    exact ⟨d, by rw [sr.2.2.2.2.1]; exact d1, sd.1.trans d2, (sd.2.1 15).trans d3.1, d3.2⟩
  · exact LsC.wx T (by decide) sl (fun e he h17 => ha.2 e (by rw [he]; decide) (fun z => by rw [z, hf] at he; exact absurd he (by decide)) (fun z => hml (Option.some.inj (z.2.symm.trans h17)))) h3
  · obtain ⟨z, zq⟩ := hn6.old ha hq (by decide) (by decide)
    rw [(ha.sm z (ne q 3 zq (by decide)) (by rw [zq]; decide)).2.1 9]
    exact h4 q zq
end ER

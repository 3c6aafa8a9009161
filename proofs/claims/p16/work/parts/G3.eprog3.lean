def sumN (f : Nat → Nat) : Nat → Nat
  | 0 => 0
  | n + 1 => sumN f n + f n
def szL (K : PK) (q : Nat) : Nat := (K.2.1 23 q).toNatClampNeg
def lsz (K : PK) (o : Option Nat) : Nat := match o with
  | none => 0
  | some x => szL K x
def fz (K : PK) (dr fd k : Nat) : Nat := match K.2.2.2.2.1 dr k with
  | none => 0
  | some d => lsz K (K.2.2.1 fd d)
/-- the Decls of a program -/
def bti (k : Nat) : Nat := if k = 0 then 2 else if k < 7 then 1 else 0
def DcR (K : PK) (g : Nat → Nat → Nat) (dr nd : Nat) : Prop := ∀ k : Nat, k < nd → ∃ d : Nat, K.2.2.2.2.1 dr k = some d ∧ K.1 d = 4 ∧ K.2.1 15 d = nI k ∧ g 5 d = bti k
/-- the numbers of methods -/
def NmO (K : PK) (nm : Nat) (it : Nat → Nat) : Prop := ∀ q : Nat, K.1 q = 3 → K.2.1 9 q = -1 ∨ ∃ j : Nat, j < nm ∧ K.2.1 9 q = nI j ∧ it j = q
/-- its objects -/
def PgB (K : PK) (g : Nat → Nat → Nat) (ax pq dr ml nd : Nat) : Prop := K.1 pq = 7 ∧ K.2.2.1 18 pq = some ax ∧ K.2.2.1 14 pq = some dr ∧ K.1 dr = 8 ∧ K.2.2.1 15 pq = some ml ∧ K.1 ml = 5 ∧ g 3 ml = 6 ∧ K.2.1 24 pq = nI nd ∧ 7 ≤ nd ∧ nd ≤ 37
def PgU (G : pT) (K : PK) (g : Nat → Nat → Nat) (ax pq dr ml nd nm cp : Nat) (it : Nat → Nat) (s : Nat) : Prop := PgB K g ax pq dr ml nd ∧ DcR K g dr nd ∧ LsC G K ml 3 nm it cp ∧ NmO K nm it ∧ 2 * sumN (fz K dr 8) nd + 5 * sumN (fz K dr 9) nd ≤ s ∧ 6 * nm ≤ s ∧ cp ≤ 10 + 2 * nm
def wr (r : Nat) : Nat := if r = 1 then 2 else if r = 2 then 5 else 0
section ER
variable {G : pT} {K K1 K2 : PK} {g g1 g2 : Nat → Nat → Nat} {p q d f o x ax pq dr ml nd nm cp s es n cap k r fd : Nat} {it : Nat → Nat}
theorem sumN_le {f f1 : Nat → Nat} {n : Nat} (h : ∀ k : Nat, k < n → f1 k ≤ f k) : sumN f1 n ≤ sumN f n := by
  induction n with
  | zero => exact Nat.le_refl _
  | succ n ih =>
    have a := ih (fun k hk => h k (by omega))
    have b := h n (by omega)
    show sumN f1 n + f1 n ≤ sumN f n + f n
    omega
theorem sumN_le1 {f f1 : Nat → Nat} {n k0 : Nat} (h : ∀ k : Nat, k < n → ¬ k = k0 → f1 k ≤ f k) (h0 : k0 < n → f1 k0 ≤ f k0 + 1) : sumN f1 n ≤ sumN f n + 1 := by
  induction n with
  | zero => exact Nat.zero_le _
  | succ n ih =>
    show sumN f1 n + f1 n ≤ sumN f n + f n + 1
    by_cases e : n = k0
    · have a : sumN f1 n ≤ sumN f n := sumN_le (fun k hk => h k (by omega) (by omega))
      have b := h0 (by omega)
      rw [← e] at b
      omega
    · have a := ih (fun k hk => h k (by omega)) (fun hk => h0 (by omega))
      have b := h n (by omega) e
      omega
theorem PgU.up {s1 : Nat} (h : PgU G K g ax pq dr ml nd nm cp it s) (hs : s ≤ s1) : PgU G K g ax pq dr ml nd nm cp it s1 := by
  obtain ⟨h1, h2, h3, h4, h5, h6, h7⟩ := h
  exact ⟨h1, h2, h3, h4, by omega, by omega, h7⟩
/-- all that stood stands, nothing new is a Method -/
theorem PgU.ext (h : PgU G K g ax pq dr ml nd nm cp it s) (hw : ∀ q : Nat, K.1 q = 4 → DcO K g q) (hx : ∀ p : Nat, ¬ K.1 p = 0 → Sm K K1 p ∧ ∀ i : Nat, g1 i p = g i p) (hn : ∀ q : Nat, K1.1 q = 3 → K.1 q = 0 → K1.2.1 9 q = -1) : PgU G K1 g1 ax pq dr ml nd nm cp it s := by
  obtain ⟨⟨b1, b2, b3, b4, b5, b6, b7, b8, b9⟩, h2, h3, h4, h5, h6, h7⟩ := h
  have sq := (hx pq (by rw [b1]; decide)).1
  have sr := (hx dr (by rw [b4]; decide)).1
  have sl := hx ml (by rw [b6]; decide)
  have fe : ∀ fd : Nat, (fd = 8 ∨ fd = 9) → ∀ k : Nat, k < nd → fz K1 dr fd k = fz K dr fd k := fun fd hfd k hk => by
    obtain ⟨d, d1, d2, d3⟩ := h2 k hk
    have sd := (hx d (by rw [d2]; decide)).1
    have e1 : ∃ x : Nat, K.2.2.1 fd d = some x ∧ K.1 x = 5 := by
      obtain ⟨⟨x, y1, y2, _⟩, ⟨x', z1, z2, _⟩, _⟩ := hw d d2
      rcases hfd with e | e <;> subst e
      · exact ⟨x, y1, y2⟩
      · exact ⟨x', z1, z2⟩
    obtain ⟨x, e2, e3⟩ := e1
    have sx := (hx x (by rw [e3]; decide)).1
    unfold fz
    rw [sr.2.2.2.2.1, d1]
    show lsz K1 (K1.2.2.1 fd d) = lsz K (K.2.2.1 fd d)
    rw [sd.2.2.1, e2]
    show szL K1 x = szL K x
    unfold szL
    rw [sx.2.1]
  have se : ∀ fd : Nat, (fd = 8 ∨ fd = 9) → sumN (fz K1 dr fd) nd ≤ sumN (fz K dr fd) nd := fun fd hfd => sumN_le (fun k hk => Nat.le_of_eq (fe fd hfd k hk))
  refine ⟨⟨sq.1.trans b1, (sq.2.2.1 18).trans b2, (sq.2.2.1 14).trans b3, sr.1.trans b4, (sq.2.2.1 15).trans b5, sl.1.1.trans b6, (sl.2 3).trans b7, (sq.2.1 24).trans b8, b9⟩, fun k hk => ?_, ?_, fun q hq => ?_, ?_, h6, h7⟩
  · obtain ⟨d, d1, d2, d3⟩ := h2 k hk
    have sd := (hx d (by rw [d2]; decide)).1
    exact ⟨d, by rw [sr.2.2.2.2.1]; exact d1, sd.1.trans d2, (sd.2.1 15).trans d3.1, ((hx d (by rw [d2]; decide)).2 5).trans d3.2⟩
  · exact LsC.wx (fun p hp => (hx p hp).1.1) (by decide) sl.1 (fun e he _ => (hx e (by rw [he]; decide)).1) h3
  · by_cases z : K.1 q = 0
    · exact Or.inl (hn q hq z)
    · have w := (hx q z).1
      rw [w.2.1 9]
      exact h4 q (w.1.symm.trans hq)
  · have y1 := se 8 (Or.inl rfl)
    have y2 := se 9 (Or.inr rfl)
    omega
/-- a list of a Decl or of a Method takes one more -/
theorem PgU.add (h : PgU G K g ax pq dr ml nd nm cp it s) (hw : ∀ q : Nat, K.1 q = 4 → DcO K g q) (ha : AdQ K K1 f) (hn6 : N6 K K1) (hf : K.1 f = 5) (hml : ¬ f = ml) (hsz : szL K1 f = szL K f + 1) (hr : ¬ g 3 f = 6) : PgU G K1 g ax pq dr ml nd nm cp it (s + wr (g 3 f)) := by
  obtain ⟨⟨b1, b2, b3, b4, b5, b6, b7, b8, b9⟩, h2, h3, h4, h5, h6, h7⟩ := h
  have ne : ∀ p s : Nat, K.1 p = s → ¬ s = 5 → ¬ p = f := fun p s hp hs z => hs (by rw [← hp, z]; exact hf)
  have sq := ha.sm (p := pq) (by rw [b1]; decide) (ne pq 7 b1 (by decide)) (by rw [b1]; decide)
  have sr := ha.sm (p := dr) (by rw [b4]; decide) (ne dr 8 b4 (by decide)) (by rw [b4]; decide)
  have sl := ha.sm (p := ml) (by rw [b6]; decide) (fun z => hml z.symm) (by rw [b6]; decide)
  have T : ∀ p : Nat, ¬ K.1 p = 0 → K1.1 p = K.1 p := fun p hp => (ha.1 p hp).1
  have dcs : ∀ k : Nat, k < nd → ∃ d x y : Nat, K.2.2.2.2.1 dr k = some d ∧ K.1 d = 4 ∧ K.2.1 15 d = nI k ∧ Sm K K1 d ∧ (K.2.2.1 8 d = some x ∧ K.1 x = 5 ∧ g 3 x = 1 ∧ g 4 x = d) ∧ (K.2.2.1 9 d = some y ∧ K.1 y = 5 ∧ g 3 y = 2 ∧ g 4 y = d) := fun k hk => by
    obtain ⟨d, d1, d2, d3⟩ := h2 k hk
    obtain ⟨⟨x, y1⟩, ⟨x', z1⟩, _⟩ := hw d d2
    exact ⟨d, x, x', d1, d2, d3.1, ha.sm (by rw [d2]; decide) (ne d 4 d2 (by decide)) (by rw [d2]; decide), y1, z1⟩
  have sx : ∀ x : Nat, K.1 x = 5 → ¬ x = f → szL K1 x = szL K x := fun x hx hn => by
    unfold szL
    rw [(ha.sm (p := x) (by rw [hx]; decide) hn (by rw [hx]; decide)).2.1]
  have f8 : ∀ (k d x : Nat), K.2.2.2.2.1 dr k = some d → Sm K K1 d → K.2.2.1 8 d = some x → fz K1 dr 8 k = szL K1 x ∧ fz K dr 8 k = szL K x := fun k d x e1 e2 e3 => by
    unfold fz
    rw [sr.2.2.2.2.1, e1]
    show lsz K1 (K1.2.2.1 8 d) = _ ∧ lsz K (K.2.2.1 8 d) = _
    rw [e2.2.2.1, e3]
    exact ⟨rfl, rfl⟩
  have f9 : ∀ (k d x : Nat), K.2.2.2.2.1 dr k = some d → Sm K K1 d → K.2.2.1 9 d = some x → fz K1 dr 9 k = szL K1 x ∧ fz K dr 9 k = szL K x := fun k d x e1 e2 e3 => by
    unfold fz
    rw [sr.2.2.2.2.1, e1]
    show lsz K1 (K1.2.2.1 9 d) = _ ∧ lsz K (K.2.2.1 9 d) = _
    rw [e2.2.2.1, e3]
    exact ⟨rfl, rfl⟩
  have kk : ∀ k d : Nat, k < nd → K.2.1 15 d = nI k → (K.2.1 15 d).toNatClampNeg = k := fun k d hk e => by
    rw [e]; exact nI_clamp (by omega)
  have n8 : ¬ g 3 f = 1 → sumN (fz K1 dr 8) nd ≤ sumN (fz K dr 8) nd := fun r1 => sumN_le (fun k hk => by
    obtain ⟨d, x, y, e1, e2, e3, e4, e5, e6⟩ := dcs k hk
    obtain ⟨w1, w2⟩ := f8 k d x e1 e4 e5.1
    rw [w1, w2]
    exact Nat.le_of_eq (sx x e5.2.1 (fun z => by rw [z] at e5; exact r1 e5.2.2.1)))
  have n9 : ¬ g 3 f = 2 → sumN (fz K1 dr 9) nd ≤ sumN (fz K dr 9) nd := fun r2 => sumN_le (fun k hk => by
    obtain ⟨d, x, y, e1, e2, e3, e4, e5, e6⟩ := dcs k hk
    obtain ⟨w1, w2⟩ := f9 k d y e1 e4 e6.1
    rw [w1, w2]
    exact Nat.le_of_eq (sx y e6.2.1 (fun z => by rw [z] at e6; exact r2 e6.2.2.1)))
  have p8 : sumN (fz K1 dr 8) nd ≤ sumN (fz K dr 8) nd + 1 := by
    refine sumN_le1 (k0 := (K.2.1 15 (g 4 f)).toNatClampNeg) (fun k hk hne => ?_) ?_
    · obtain ⟨d, x, y, e1, e2, e3, e4, e5, e6⟩ := dcs k hk
      obtain ⟨w1, w2⟩ := f8 k d x e1 e4 e5.1
      rw [w1, w2]
      refine Nat.le_of_eq (sx x e5.2.1 (fun z => hne ?_))
      have e7 := e5.2.2.2
      rw [z] at e7
      rw [e7]; exact (kk k d hk e3).symm
    · intro hk
      obtain ⟨d, x, y, e1, e2, e3, e4, e5, e6⟩ := dcs _ hk
      obtain ⟨w1, w2⟩ := f8 _ d x e1 e4 e5.1
      rw [w1, w2]
      by_cases z : x = f
      · rw [z, hsz]; exact Nat.le_refl _
      · rw [sx x e5.2.1 z]; omega
  have p9 : sumN (fz K1 dr 9) nd ≤ sumN (fz K dr 9) nd + 1 := by
    refine sumN_le1 (k0 := (K.2.1 15 (g 4 f)).toNatClampNeg) (fun k hk hne => ?_) ?_
    · obtain ⟨d, x, y, e1, e2, e3, e4, e5, e6⟩ := dcs k hk
      obtain ⟨w1, w2⟩ := f9 k d y e1 e4 e6.1
      rw [w1, w2]
      refine Nat.le_of_eq (sx y e6.2.1 (fun z => hne ?_))
      have e7 := e6.2.2.2
      rw [z] at e7
      rw [e7]; exact (kk k d hk e3).symm
    · intro hk
      obtain ⟨d, x, y, e1, e2, e3, e4, e5, e6⟩ := dcs _ hk
      obtain ⟨w1, w2⟩ := f9 _ d y e1 e4 e6.1
      rw [w1, w2]
      by_cases z : y = f
      · rw [z, hsz]; exact Nat.le_refl _
      · rw [sx y e6.2.1 z]; omega
  have hsum : 2 * sumN (fz K1 dr 8) nd + 5 * sumN (fz K1 dr 9) nd ≤ s + wr (g 3 f) := by
    unfold wr
    by_cases r1 : g 3 f = 1
    · rw [if_pos r1]
      have y9 := n9 (by rw [r1]; decide)
      omega
    · rw [if_neg r1]
      have y8 := n8 r1
      by_cases r2 : g 3 f = 2
      · rw [if_pos r2]; omega
      · rw [if_neg r2]
        have y9 := n9 r2
        omega
  refine ⟨⟨sq.1.trans b1, (sq.2.2.1 18).trans b2, (sq.2.2.1 14).trans b3, sr.1.trans b4, (sq.2.2.1 15).trans b5, sl.1.trans b6, b7, (sq.2.1 24).trans b8, b9⟩, fun k hk => ?_, ?_, fun q hq => ?_, hsum, Nat.le_trans h6 (Nat.le_add_right _ _), h7⟩
  · obtain ⟨d, d1, d2, d3⟩ := h2 k hk
    have sd := ha.sm (p := d) (by rw [d2]; decide) (ne d 4 d2 (by decide)) (by rw [d2]; decide)
    exact ⟨d, by rw [sr.2.2.2.2.1]; exact d1, sd.1.trans d2, (sd.2.1 15).trans d3.1, d3.2⟩
  · exact LsC.wx T (by decide) sl (fun e he h17 => ha.2 e (by rw [he]; decide) (fun z => by rw [z, hf] at he; exact absurd he (by decide)) (fun z => hml (Option.some.inj (z.2.symm.trans h17)))) h3
  · obtain ⟨z, zq⟩ := hn6.old ha hq (by decide) (by decide)
    rw [(ha.sm z (ne q 3 zq (by decide)) (by rw [zq]; decide)).2.1 9]
    exact h4 q zq
end ER
def iw (wt : Nat → Nat) (o : Option Nat) : Nat := match o with
  | none => 0
  | some m => wt m
def eo (K : PK) (o : Option Nat) (i : Nat) : Option Nat := match o with
  | none => none
  | some e => K.2.2.2.2.1 e i
/-- what the members of a list weigh -/
def lw (K : PK) (wt : Nat → Nat) (y : Nat) : Nat := sumN (fun i => iw wt (eo K (K.2.2.1 13 y) i)) (szL K y)
def ow (K : PK) (wt : Nat → Nat) (o : Option Nat) : Nat := match o with
  | none => 0
  | some y => lw K wt y
/-- what a Decl's methods weigh -/
def fw (K : PK) (wt : Nat → Nat) (dr k : Nat) : Nat := match K.2.2.2.2.1 dr k with
  | none => 0
  | some d => ow K wt (K.2.2.1 9 d)
/-- a body's tokens between its brackets -/
def bl (K : PK) (g : Nat → Nat → Nat) (m : Nat) : Nat := match K.2.2.1 7 m with
  | none => 4
  | some b => rE (g 2 b) - rS (g 2 b) - 2 + 4
def TbO (K : PK) (g : Nat → Nat → Nat) (dr nd s : Nat) : Prop := sumN (fw K (bl K g) dr) nd ≤ s
def dlt (m x : Nat) : Nat := if x = m then 1 else 0
/-- a method is there at most once -/
def Onc (K : PK) (dr nd m : Nat) : Prop := sumN (fw K (dlt m) dr) nd ≤ 1
section TB
variable {G : pT} {K K1 K2 : PK} {g g1 g2 : Nat → Nat → Nat} {p q d f o x m b y ax pq dr ml nd nm cp s es n cap cap1 k r fd c : Nat} {it : Nat → Nat} {v : Int32} {wt wt1 : Nat → Nat}
theorem sumN_eq {f f1 : Nat → Nat} {n : Nat} (h : ∀ k : Nat, k < n → f1 k = f k) : sumN f1 n = sumN f n := Nat.le_antisymm (sumN_le fun k hk => Nat.le_of_eq (h k hk)) (sumN_le fun k hk => Nat.le_of_eq (h k hk).symm)
theorem sumN_0 {f : Nat → Nat} {n : Nat} (h : ∀ k : Nat, k < n → f k = 0) : sumN f n = 0 := by
  induction n with
  | zero => rfl
  | succ n ih =>
    show sumN f n + f n = 0
    rw [ih (fun k hk => h k (by omega)), h n (by omega)]
theorem sumN_0i {f : Nat → Nat} {n : Nat} (h : sumN f n ≤ 0) : ∀ k : Nat, k < n → f k = 0 := by
  induction n with
  | zero => intro k hk; omega
  | succ n ih =>
    have h : sumN f n + f n ≤ 0 := h
    intro k hk
    by_cases e : k = n
    · rw [e]; omega
    · exact ih (by omega) k (by omega)
theorem sumN_leC {f f1 : Nat → Nat} {n k0 c : Nat} (h : ∀ k : Nat, k < n → ¬ k = k0 → f1 k ≤ f k) (h0 : k0 < n → f1 k0 ≤ f k0 + c) : sumN f1 n ≤ sumN f n + c := by
  induction n with
  | zero => exact Nat.zero_le _
  | succ n ih =>
    show sumN f1 n + f1 n ≤ sumN f n + f n + c
    by_cases e : n = k0
    · have a : sumN f1 n ≤ sumN f n := sumN_le (fun k hk => h k (by omega) (by omega))
      have b := h0 (by omega)
      rw [← e] at b
      omega
    · have a := ih (fun k hk => h k (by omega)) (fun hk => h0 (by omega))
      have b := h n (by omega) e
      omega
theorem sumN_lin {f f1 h : Nat → Nat} {n c : Nat} (H : ∀ i : Nat, i < n → f1 i ≤ f i + c * h i) : sumN f1 n ≤ sumN f n + c * sumN h n := by
  induction n with
  | zero => exact Nat.zero_le _
  | succ n ih =>
    show sumN f1 n + f1 n ≤ sumN f n + f n + c * (sumN h n + h n)
    have a := ih (fun k hk => H k (by omega))
    have b := H n (by omega)
    rw [Nat.mul_add]
    omega
theorem LsC.itm (h : LsC G K q es n it cap) {i : Nat} (hi : i < n) : K.1 (it i) = es := by
  obtain ⟨h1, h2, h3, h4⟩ := h
  rcases h4 with ⟨a1, a2, a3⟩ | ⟨e9, a1, a2, a3, a4, a5, a6, a7, a8⟩
  · omega
  · exact (a8 i hi).2
theorem lw_of (h : LsC G K q es n it cap) : lw K wt q = sumN (fun i => wt (it i)) n := by
  obtain ⟨h1, h2, h3, h4⟩ := h
  have e : szL K q = n := by
    unfold szL
    rw [h2]; exact nI_clamp (by omega)
  unfold lw
  rw [e]
  rcases h4 with ⟨a1, a2, a3⟩ | ⟨e9, a1, a2, a3, a4, a5, a6, a7, a8⟩
  · rw [a2]; rfl
  · refine sumN_eq (fun i hi => ?_)
    show iw wt (eo K (K.2.2.1 13 q) i) = wt (it i)
    rw [a1]
    show iw wt (K.2.2.2.2.1 e9 i) = wt (it i)
    rw [(a8 i hi).1]; rfl
theorem fw_of (h1 : K.2.2.2.2.1 dr k = some d) (h2 : K.2.2.1 9 d = some y) : fw K wt dr k = lw K wt y := by
  unfold fw
  rw [h1]
  show ow K wt (K.2.2.1 9 d) = _
  rw [h2]; rfl
theorem fw_z (h : fz K dr 9 k = 0) : fw K wt dr k = 0 := by
  unfold fz at h
  unfold fw
  cases e : K.2.2.2.2.1 dr k with
  | none => rfl
  | some d =>
    rw [e] at h
    show ow K wt (K.2.2.1 9 d) = 0
    have h : lsz K (K.2.2.1 9 d) = 0 := h
    cases e2 : K.2.2.1 9 d with
    | none => rfl
    | some y =>
      rw [e2] at h
      have h : szL K y = 0 := h
      show lw K wt y = 0
      unfold lw
      rw [h]; rfl
theorem fw_eq (hd : DcR K g dr nd) (hw : WPr G K g) (hk : k < nd) (hr : K1.2.2.2.2.1 dr k = K.2.2.2.2.1 dr k) (h9 : ∀ d : Nat, K.1 d = 4 → K1.2.2.1 9 d = K.2.2.1 9 d) (hl : ∀ (d y n cap : Nat) (it : Nat → Nat), K.2.2.2.2.1 dr k = some d → K.2.2.1 9 d = some y → K.2.1 15 d = nI k → K.1 y = 5 → g 3 y = 2 → g 4 y = d → LsC G K y 3 n it cap → LsC G K1 y 3 n it cap) (hwt : ∀ m : Nat, K.1 m = 3 → wt1 m = wt m) : fw K1 wt1 dr k = fw K wt dr k := by
  obtain ⟨d, d1, d2, d3, d4⟩ := hd k hk
  obtain ⟨y, y1, y2, y3, y4⟩ := (hw.2.2.1 d d2).2.1
  obtain ⟨n, it, cap, l1, l2⟩ := hw.2.1 y y2
  rw [y3] at l1
  have l1 : LsC G K y 3 n it cap := l1
  have l3 := hl d y n cap it d1 y1 d3 y2 y3 y4 l1
  rw [fw_of (hr.trans d1) ((h9 d d2).trans y1), fw_of d1 y1, lw_of l3, lw_of l1]
  exact sumN_eq (fun i hi => hwt (it i) (l1.itm hi))
theorem tb_add (hd : DcR K g dr nd) (hnd : nd ≤ 37) (hw : WPr G K g) (hr : ∀ k : Nat, k < nd → K1.2.2.2.2.1 dr k = K.2.2.2.2.1 dr k) (h9 : ∀ d : Nat, K.1 d = 4 → K1.2.2.1 9 d = K.2.2.1 9 d) (l : LsC G K f 3 n it cap) (l1 : LsC G K1 f 3 (n + 1) (upQ it n x) cap1) (hl : ∀ (y n cap : Nat) (it : Nat → Nat), K.1 y = 5 → ¬ y = f → LsC G K y 3 n it cap → LsC G K1 y 3 n it cap) (wt : Nat → Nat) : sumN (fw K1 wt dr) nd ≤ sumN (fw K wt dr) nd + wt x := by
  have kk : ∀ k d : Nat, k < nd → K.2.1 15 d = nI k → (K.2.1 15 d).toNatClampNeg = k := fun k d hk e => by
    rw [e]; exact nI_clamp (by omega)
  refine sumN_leC (k0 := (K.2.1 15 (g 4 f)).toNatClampNeg) (fun k hk hne => ?_) (fun hk => ?_)
  · refine Nat.le_of_eq (fw_eq hd hw hk (hr k hk) h9 (fun d y n cap it e0 e1 e2 e3 e4 e5 e6 => hl y n cap it e3 (fun z => hne ?_) e6) (fun _ _ => rfl))
    rw [z] at e5
    rw [e5]; exact (kk k d hk e2).symm
  · obtain ⟨d, d1, d2, d3, d4⟩ := hd _ hk
    obtain ⟨y, y1, y2, y3, y4⟩ := (hw.2.2.1 d d2).2.1
    by_cases z : y = f
    · subst z
      rw [fw_of ((hr _ hk).trans d1) ((h9 d d2).trans y1), fw_of d1 y1, lw_of l1, lw_of l]
      show sumN (fun i => wt (upQ it n x i)) n + wt (upQ it n x n) ≤ _
      have e1 : sumN (fun i => wt (upQ it n x i)) n = sumN (fun i => wt (it i)) n := sumN_eq (fun i hi => by
        show wt (if i = n then x else it i) = wt (it i)
        rw [if_neg (by omega)])
      have e2 : upQ it n x n = x := if_pos rfl
      rw [e1, e2]; exact Nat.le_refl _
    · have e := fw_eq (wt1 := wt) (wt := wt) hd hw hk (hr _ hk) h9 (fun d' y' n cap it e0 e1 e2 e3 e4 e5 e6 => hl y' n cap it e3 (fun z' => z (by rw [d1] at e0; cases e0; rw [y1] at e1; cases e1; exact z')) e6) (fun _ _ => rfl)
      rw [e]; exact Nat.le_add_right _ _
theorem bl_eq (hm : MtO K g m) (h7 : K1.2.2.1 7 m = K.2.2.1 7 m) (hg : ∀ b : Nat, K.1 b = 1 → g1 2 b = g 2 b) : bl K1 g1 m = bl K g m := by
  unfold bl
  rw [h7]
  cases e : K.2.2.1 7 m with
  | none => rfl
  | some b =>
    show rE (g1 2 b) - rS (g1 2 b) - 2 + 4 = rE (g 2 b) - rS (g 2 b) - 2 + 4
    rw [hg b (hm.2.2.1 b e).1]
theorem bl_4 : 4 ≤ bl K g m := by
  unfold bl
  cases K.2.2.1 7 m with
  | none => exact Nat.le_refl _
  | some b => exact Nat.le_add_left _ _
theorem bl_0 (h : K.2.2.1 7 m = none) : bl K g m = 4 := by
  unfold bl
  rw [h]
theorem fw_lin (H : ∀ x : Nat, wt1 x ≤ wt x + c * dlt m x) (k : Nat) : fw K wt1 dr k ≤ fw K wt dr k + c * fw K (dlt m) dr k := by
  unfold fw
  cases K.2.2.2.2.1 dr k with
  | none => exact Nat.zero_le _
  | some d =>
    show ow K wt1 (K.2.2.1 9 d) ≤ ow K wt (K.2.2.1 9 d) + c * ow K (dlt m) (K.2.2.1 9 d)
    cases K.2.2.1 9 d with
    | none => exact Nat.zero_le _
    | some y =>
      show lw K wt1 y ≤ lw K wt y + c * lw K (dlt m) y
      unfold lw
      refine sumN_lin (fun i _ => ?_)
      show iw wt1 (eo K (K.2.2.1 13 y) i) ≤ iw wt (eo K (K.2.2.1 13 y) i) + c * iw (dlt m) (eo K (K.2.2.1 13 y) i)
      cases eo K (K.2.2.1 13 y) i with
      | none => exact Nat.zero_le _
      | some z => exact H z
theorem fw_kI (hf : ¬ 23 = f) : fw (kI K f q v) wt dr k = fw K wt dr k := by
  unfold fw
  show (match K.2.2.2.2.1 dr k with | none => 0 | some d => ow (kI K f q v) wt (K.2.2.1 9 d)) = _
  cases K.2.2.2.2.1 dr k with
  | none => rfl
  | some d =>
    show ow (kI K f q v) wt (K.2.2.1 9 d) = ow K wt (K.2.2.1 9 d)
    cases K.2.2.1 9 d with
    | none => rfl
    | some y =>
      have e : szL (kI K f q v) y = szL K y := by
        unfold szL
        rw [kI_of hf]
      show lw (kI K f q v) wt y = lw K wt y
      unfold lw
      rw [e]; rfl
theorem eo_kC {w o9 : Option Nat} {i : Nat} : eo (kC K f q w) o9 i = eo K o9 i := by
  cases o9 with
  | none => rfl
  | some x => rfl
theorem fw_kC {w : Option Nat} (hf : f = 7 ∨ f = 10) : fw (kC K f q w) wt dr k = fw K wt dr k := by
  have c : ∀ f9 p : Nat, ¬ f9 = 7 → ¬ f9 = 10 → (kC K f q w).2.2.1 f9 p = K.2.2.1 f9 p := fun f9 p h1 h2 => kC_of (by omega)
  unfold fw
  show (match K.2.2.2.2.1 dr k with | none => 0 | some d => ow (kC K f q w) wt ((kC K f q w).2.2.1 9 d)) = _
  cases K.2.2.2.2.1 dr k with
  | none => rfl
  | some d =>
    show ow (kC K f q w) wt ((kC K f q w).2.2.1 9 d) = ow K wt (K.2.2.1 9 d)
    rw [c 9 d (by decide) (by decide)]
    cases K.2.2.1 9 d with
    | none => rfl
    | some y =>
      show lw (kC K f q w) wt y = lw K wt y
      unfold lw
      rw [c 13 y (by decide) (by decide)]
      refine sumN_eq (fun i _ => ?_)
      show iw wt (eo (kC K f q w) (K.2.2.1 13 y) i) = _
      rw [eo_kC]
theorem TbO.kI (h : TbO K g dr nd s) (hf : ¬ 23 = f) : TbO (_root_.Jvm.Pilot.@@N@@.kI K f q v) g dr nd s := by
  have e : sumN (fw (_root_.Jvm.Pilot.@@N@@.kI K f q v) (bl K g) dr) nd = sumN (fw K (bl K g) dr) nd := sumN_eq (fun k _ => fw_kI hf)
  exact Nat.le_trans (Nat.le_of_eq e) h
theorem TbO.par {w : Option Nat} (h : TbO K g dr nd s) : TbO (kC K 10 q w) g dr nd s := by
  have e : bl (kC K 10 q w) g = bl K g := funext (fun m => by
    unfold bl
    rw [kC_of (by decide)])
  have e2 : sumN (fw (kC K 10 q w) (bl K g) dr) nd = sumN (fw K (bl K g) dr) nd := sumN_eq (fun k _ => fw_kC (Or.inr rfl))
  unfold TbO
  rw [e, e2]; exact h
theorem TbO.body {s1 : Nat} (h : TbO K g dr nd s) (ho : Onc K dr nd m) (hs : s + (rE (g 2 b) - rS (g 2 b) - 2) ≤ s1) : TbO (kC K 7 m (some b)) g dr nd s1 := by
  have e : ∀ x : Nat, bl (kC K 7 m (some b)) g x ≤ bl K g x + (rE (g 2 b) - rS (g 2 b) - 2) * dlt m x := fun x => by
    by_cases z : x = m
    · subst z
      have e2 : dlt x x = 1 := if_pos rfl
      have e3 : bl (kC K 7 x (some b)) g x = rE (g 2 b) - rS (g 2 b) - 2 + 4 := by
        unfold bl
        rw [kC_eq]
      have e4 := bl_4 (K := K) (g := g) (m := x)
      rw [e2, e3]
      omega
    · unfold bl
      rw [kC_ne z]; exact Nat.le_add_right _ _
  unfold TbO at h ⊢
  unfold Onc at ho
  have e2 : sumN (fw (kC K 7 m (some b)) (bl (kC K 7 m (some b)) g) dr) nd = sumN (fw K (bl (kC K 7 m (some b)) g) dr) nd := sumN_eq (fun k _ => fw_kC (Or.inl rfl))
  rw [e2]
  have a := sumN_lin (n := nd) (fun k _ => fw_lin (K := K) (dr := dr) e k)
  have b2 : (rE (g 2 b) - rS (g 2 b) - 2) * sumN (fw K (dlt m) dr) nd ≤ (rE (g 2 b) - rS (g 2 b) - 2) * 1 := Nat.mul_le_mul_left _ ho
  omega
/-- what stood stands -/
theorem tb_ext (hd : DcR K g dr nd) (hw : WPr G K g) (hdr : K.1 dr = 8) (hx : ∀ p : Nat, ¬ K.1 p = 0 → Sm K K1 p) (hwt : ∀ m : Nat, K.1 m = 3 → wt1 m = wt m) : sumN (fw K1 wt1 dr) nd = sumN (fw K wt dr) nd :=
  sumN_eq (fun k hk => fw_eq hd hw hk (by rw [(hx dr (by rw [hdr]; decide)).2.2.2.2.1]) (fun d h4 => (hx d (by rw [h4]; decide)).2.2.1 9) (fun d y n cap it _ _ _ h5 _ _ l => LsC.wx (fun p hp => (hx p hp).1) (by decide) (hx y (by rw [h5]; decide)) (fun e he _ => hx e (by rw [he]; decide)) l) hwt)
theorem TbO.ext (h : TbO K g dr nd s) (hd : DcR K g dr nd) (hw : WPr G K g) (hdr : K.1 dr = 8) (hx : ∀ p : Nat, ¬ K.1 p = 0 → Sm K K1 p ∧ ∀ i : Nat, g1 i p = g i p) : TbO K1 g1 dr nd s := by
  unfold TbO
  rw [tb_ext (wt := bl K g) hd hw hdr (fun p hp => (hx p hp).1) (fun m h3 => bl_eq (hw.2.2.2 m h3) ((hx m (by rw [h3]; decide)).1.2.2.1 7) (fun b h1 => (hx b (by rw [h1]; decide)).2 2))]; exact h
theorem Onc.ext (h : Onc K dr nd m) (hd : DcR K g dr nd) (hw : WPr G K g) (hdr : K.1 dr = 8) (hx : ∀ p : Nat, ¬ K.1 p = 0 → Sm K K1 p) : Onc K1 dr nd m := by
  unfold Onc
  rw [tb_ext (wt := dlt m) (wt1 := dlt m) hd hw hdr hx (fun _ _ => rfl)]; exact h
/-- a list takes one more -/
theorem LsC.adq (ha : AdQ K K1 f) (hf : K.1 f = 5) (h5 : K.1 y = 5) (hy : ¬ y = f) (hes : ¬ es = 0) (l : LsC G K y es n it cap) : LsC G K1 y es n it cap :=
  LsC.wx (fun p hp => (ha.1 p hp).1) hes (ha.sm (by rw [h5]; decide) hy (by rw [h5]; decide)) (fun e he h17 => ha.2 e (by rw [he]; decide) (fun z => by rw [z, hf] at he; exact absurd he (by decide)) (fun z => hy (Option.some.inj (h17.symm.trans z.2)))) l
theorem tb_oth (hd : DcR K g dr nd) (hw : WPr G K g) (hdr : K.1 dr = 8) (ha : AdQ K K1 f) (hf : K.1 f = 5) (hr : ¬ g 3 f = 2) (hwt : ∀ m : Nat, K.1 m = 3 → wt1 m = wt m) : sumN (fw K1 wt1 dr) nd = sumN (fw K wt dr) nd := by
  have ne : ∀ p s : Nat, K.1 p = s → ¬ s = 5 → ¬ p = f := fun p s hp hs z => hs (by rw [← hp, z]; exact hf)
  exact sumN_eq (fun k hk => fw_eq hd hw hk (by rw [(ha.sm (p := dr) (by rw [hdr]; decide) (ne dr 8 hdr (by decide)) (by rw [hdr]; decide)).2.2.2.2.1]) (fun d h4 => (ha.sm (by rw [h4]; decide) (ne d 4 h4 (by decide)) (by rw [h4]; decide)).2.2.1 9) (fun d y n cap it _ _ _ h5 h3 _ l => LsC.adq ha hf h5 (fun z => hr (by rw [← z]; exact h3)) (by decide) l) hwt)
theorem tb_two (hd : DcR K g dr nd) (hnd : nd ≤ 37) (hw : WPr G K g) (hdr : K.1 dr = 8) (ha : AdQ K K1 f) (hf : K.1 f = 5) (l : LsC G K f 3 n it cap) (l1 : LsC G K1 f 3 (n + 1) (upQ it n x) cap1) (wt : Nat → Nat) : sumN (fw K1 wt dr) nd ≤ sumN (fw K wt dr) nd + wt x := by
  have ne : ∀ p s : Nat, K.1 p = s → ¬ s = 5 → ¬ p = f := fun p s hp hs z => hs (by rw [← hp, z]; exact hf)
  exact tb_add hd hnd hw (fun k _ => by rw [(ha.sm (p := dr) (by rw [hdr]; decide) (ne dr 8 hdr (by decide)) (by rw [hdr]; decide)).2.2.2.2.1]) (fun d h4 => (ha.sm (by rw [h4]; decide) (ne d 4 h4 (by decide)) (by rw [h4]; decide)).2.2.1 9) l l1 (fun y n cap it h5 hy l => LsC.adq ha hf h5 hy (by decide) l) wt
theorem TbO.add (h : TbO K g dr nd s) (hd : DcR K g dr nd) (hnd : nd ≤ 37) (hw : WPr G K g) (hdr : K.1 dr = 8) (ha : AdQ K K1 f) (hf : K.1 f = 5) (hx9 : g 3 f = 2 → ∃ (n : Nat) (it : Nat → Nat) (cap cap1 x : Nat), LsC G K f 3 n it cap ∧ LsC G K1 f 3 (n + 1) (upQ it n x) cap1 ∧ K1.2.2.1 7 x = none) : TbO K1 g dr nd (s + wr (g 3 f)) := by
  have ne : ∀ p s : Nat, K.1 p = s → ¬ s = 5 → ¬ p = f := fun p s hp hs z => hs (by rw [← hp, z]; exact hf)
  have hwt : ∀ m : Nat, K.1 m = 3 → bl K1 g m = bl K g m := fun m h3 => bl_eq (hw.2.2.2 m h3) ((ha.sm (by rw [h3]; decide) (ne m 3 h3 (by decide)) (by rw [h3]; decide)).2.2.1 7) (fun _ _ => rfl)
  unfold TbO at h ⊢
  by_cases e : g 3 f = 2
  · obtain ⟨n, it, cap, cap1, x, l, l1, h7⟩ := hx9 e
    have a := tb_two hd hnd hw hdr ha hf l l1 (bl K1 g)
    rw [bl_0 h7] at a
    have b2 : sumN (fw K (bl K1 g) dr) nd = sumN (fw K (bl K g) dr) nd := tb_ext hd hw hdr (fun p _ => ⟨rfl, fun _ => rfl, fun _ => rfl, rfl, rfl, rfl⟩) hwt
    have e5 : wr (g 3 f) = 5 := by rw [e]; rfl
    omega
  · rw [tb_oth hd hw hdr ha hf e hwt]; exact Nat.le_trans h (Nat.le_add_right _ _)
theorem TbO.addo (h : TbO K g dr nd s) (hd : DcR K g dr nd) (hw : WPr G K g) (hdr : K.1 dr = 8) (ha : AdQ K K1 f) (hf : K.1 f = 5) (e : ¬ g 3 f = 2) : TbO K1 g dr nd s := by
  have ne : ∀ p s : Nat, K.1 p = s → ¬ s = 5 → ¬ p = f := fun p s hp hs z => hs (by rw [← hp, z]; exact hf)
  have hwt : ∀ m : Nat, K.1 m = 3 → bl K1 g m = bl K g m := fun m h3 => bl_eq (hw.2.2.2 m h3) ((ha.sm (by rw [h3]; decide) (ne m 3 h3 (by decide)) (by rw [h3]; decide)).2.2.1 7) (fun _ _ => rfl)
  unfold TbO at h ⊢
  rw [tb_oth hd hw hdr ha hf e hwt]; exact h
theorem Onc.add (h : Onc K dr nd m) (hd : DcR K g dr nd) (hw : WPr G K g) (hdr : K.1 dr = 8) (ha : AdQ K K1 f) (hf : K.1 f = 5) (hr : ¬ g 3 f = 2) : Onc K1 dr nd m := by
  unfold Onc
  rw [tb_oth (wt := dlt m) (wt1 := dlt m) hd hw hdr ha hf hr (fun _ _ => rfl)]; exact h
theorem Onc.new (hd : DcR K g dr nd) (hw : WPr G K g) (hm : K.1 m = 0) : sumN (fw K (dlt m) dr) nd = 0 := sumN_0 (fun k hk => by
  obtain ⟨d, d1, d2, d3, d4⟩ := hd k hk
  obtain ⟨y, y1, y2, y3, y4⟩ := (hw.2.2.1 d d2).2.1
  obtain ⟨n, it, cap, l1, l2⟩ := hw.2.1 y y2
  rw [y3] at l1
  have l1 : LsC G K y 3 n it cap := l1
  rw [fw_of d1 y1, lw_of l1]
  exact sumN_0 (fun i hi => if_neg (fun z => by have e := l1.itm hi; rw [z, hm] at e; exact absurd e (by decide))))
theorem Onc.kI (h : Onc K dr nd m) (hf : ¬ 23 = f) : Onc (_root_.Jvm.Pilot.@@N@@.kI K f q v) dr nd m := by
  have e : sumN (fw (_root_.Jvm.Pilot.@@N@@.kI K f q v) (dlt m) dr) nd = sumN (fw K (dlt m) dr) nd := sumN_eq (fun k _ => fw_kI hf)
  exact Nat.le_trans (Nat.le_of_eq e) h
end TB

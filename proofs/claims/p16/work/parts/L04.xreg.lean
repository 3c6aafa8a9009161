/-! regions: tries and their LASTS -/
/-- st, en, ha, so, cl (-1: a LAST), le (where its LAST ends) -/
abbrev RX : Type := (Nat → Nat) × (Nat → Nat) × (Nat → Nat) × (Nat → Nat) × (Nat → Int32) × (Nat → Nat)
def inR (Q : RX) (j pc : Nat) : Prop := Q.1 j ≤ pc ∧ pc < Q.2.1 j
def lsR (Q : RX) (r0 r1 j : Nat) : Prop := r0 ≤ j ∧ j < r1 ∧ Q.2.2.2.2.1 j = -1
/-- what comes up at pc may be caught by region j -/
def HdO (A : Nat → AS) (Q : RX) (sn j pc : Nat) : Prop :=
  (A (Q.2.2.1 j)).1 = 1 ∧ (A (Q.2.2.1 j)).2.2.2 = [] ∧ Q.2.2.2.1 j ≤ (A pc).2.1 ∧ (∀ i : Nat, i < Q.2.2.2.1 j → (A (Q.2.2.1 j)).2.2.1 i = (A pc).2.2.1 i) ∧ pc < Q.2.2.1 j ∧
    ((∃ c : Nat, c < 60 ∧ Q.2.2.2.2.1 j = nI c ∧ (A (Q.2.2.1 j)).2.1 ≤ Q.2.2.2.1 j + 1 ∧ Q.2.2.2.1 j < sn ∧ (A (Q.2.2.1 j)).2.2.1 (Q.2.2.2.1 j) = c) ∨
      (Q.2.2.2.2.1 j = -1 ∧ (A (Q.2.2.1 j)).2.1 = Q.2.2.2.1 j + 2 ∧ Q.2.2.2.1 j + 2 ≤ sn ∧ (A (Q.2.2.1 j)).2.2.1 (Q.2.2.2.1 j + 1) = 999 ∧ ∃ e : Nat, e ≤ 1 ∧ (A (Q.2.2.1 j)).2.2.1 (Q.2.2.2.1 j) = 1000 + 2 * Q.2.2.1 j + e))
/-- a way that a LAST (it begins at h) may have to go on -/
def WP (A : Nat → AS) (Q : RX) (r0 r1 : Nat) (h x : Nat) : Prop := ∃ j : Nat, lsR Q r0 r1 j ∧ Q.2.2.1 j = h ∧ (A x).1 = 1 ∧ (A x).2.2.2 = [] ∧ (A x).2.1 ≤ Q.2.2.2.1 j ∧ (∀ i : Nat, i < (A x).2.1 → (A x).2.2.1 i = (A h).2.2.1 i) ∧ Q.2.2.2.2.2 j < x ∧
  ∀ k : Nat, lsR Q r0 r1 k → inR Q k h → ¬ inR Q k x → (A x).2.1 ≤ Q.2.2.2.1 k ∧ Q.2.2.2.2.2 k < x
/-- how LASTS lie to each other -/
def NsR (Q : RX) (r0 r1 : Nat) : Prop := ∀ j k : Nat, lsR Q r0 r1 j → lsR Q r0 r1 k → inR Q k (Q.2.2.1 j) → (∀ pc : Nat, inR Q j pc → inR Q k pc) ∨ (Q.2.2.2.1 j ≤ Q.2.2.2.1 k ∧ Q.2.2.2.2.2 k ≤ Q.2.2.2.2.2 j)
/-- a jump out of LASTS -/
def LvR (A : Nat → AS) (Q : RX) (r0 r1 pc x : Nat) : Prop := ∀ j : Nat, lsR Q r0 r1 j → inR Q j pc → ¬ inR Q j x → (A x).2.1 ≤ Q.2.2.2.1 j ∧ Q.2.2.2.2.2 j < x
/-- the end of the LAST that begins at h -/
def EnR (Q : RX) (r0 r1 pc s h : Nat) : Prop := (∀ j : Nat, lsR Q r0 r1 j → Q.2.2.1 j = h → Q.2.2.2.1 j = s ∧ Q.2.2.2.2.2 j = pc) ∧ ∀ k : Nat, lsR Q r0 r1 k → inR Q k pc → inR Q k h
section XQ
variable {fi : Nat → Nat → Prop} {A : Nat → AS} {Q : RX} {r0 r1 pc sn s h x j : Nat}
theorem WP.leave (hg : Go fi (wos [] (A pc)) (A x)) (hl : LvR A Q r0 r1 pc x) (hn : NsR Q r0 r1) (hd : HdO A Q sn j pc) (h1 : lsR Q r0 r1 j) (h2 : inR Q j pc) (h3 : ¬ inR Q j x) : WP A Q r0 r1 (Q.2.2.1 j) x := by
  obtain ⟨a1, a2⟩ := hl j h1 h2 h3
  obtain ⟨g1, g2, g3, g4⟩ := hg
  obtain ⟨d1, d2, d3, d4, d5, d6⟩ := hd
  have os : (A x).2.2.2 = [] := by
    have z : OL fi [] (A x).2.2.2 := g4
    cases e : (A x).2.2.2 with
    | nil => rfl
    | cons t l => rw [e] at z; exact z.elim
  refine ⟨j, h1, rfl, g1, os, a1, fun i hi => (g3 i hi).trans (d4 i (by omega)).symm, a2, fun k k1 k2 k3 => ?_⟩
  rcases hn j k h1 k1 k2 with w | ⟨w1, w2⟩
  · exact hl k k1 (w pc h2) k3
  · omega
theorem WP.go (hw : WP A Q r0 r1 h x) (he : EnR Q r0 r1 pc s h) (ha : ∀ i : Nat, i < s → (A pc).2.2.1 i = (A h).2.2.1 i) (hs : s ≤ (A pc).2.1) : Go fi (wos [] (A pc)) (A x) ∧ pc < x := by
  obtain ⟨j, j1, j2, j3, j4, j5, j6, j7, j8⟩ := hw
  obtain ⟨e1, e2⟩ := he.1 j j1 j2
  refine ⟨⟨j3, by show (A x).2.1 ≤ (A pc).2.1; omega, fun i hi => (j6 i hi).trans (ha i (by omega)).symm, ?_⟩, by omega⟩
  show OL fi [] (A x).2.2.2
  rw [j4]; trivial
theorem WP.on (hw : WP A Q r0 r1 h x) (he : EnR Q r0 r1 pc s h) (ha : ∀ i : Nat, i < s → (A pc).2.2.1 i = (A h).2.2.1 i) (hn : NsR Q r0 r1) (hd : HdO A Q sn j pc) (h1 : lsR Q r0 r1 j) (h2 : inR Q j pc) (h3 : ¬ inR Q j x) : WP A Q r0 r1 (Q.2.2.1 j) x := by
  obtain ⟨i9, j1, j2, j3, j4, j5, j6, j7, j8⟩ := hw
  obtain ⟨e1, e2⟩ := he.1 i9 j1 j2
  obtain ⟨d1, d2, d3, d4, d5, d6⟩ := hd
  obtain ⟨b1, b2⟩ := j8 j h1 (he.2 j h1 h2) h3
  refine ⟨j, h1, rfl, j3, j4, b1, fun i hi => (j6 i hi).trans (((d4 i (by omega)).trans (ha i (by omega))).symm), b2, fun k k1 k2 k3 => ?_⟩
  rcases hn j k h1 k1 k2 with w | ⟨w1, w2⟩
  · exact j8 k k1 (he.2 k k1 (w pc h2)) k3
  · omega
end XQ

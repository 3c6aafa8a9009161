/-! the open calls -/
/-- of each method: its annotation; slots; code from, to; regions from, to; result; wp: the ways that its LASTS may have to go on -/
abbrev MX : Type := (Nat → Nat → AS) × (Nat → Nat) × (Nat → Nat) × (Nat → Nat) × (Nat → Nat) × (Nat → Nat → Nat → Prop)
/-- the callers: f is the row of frames; the call that runs is of method j, and its slots begin at base -/
def CS (fi : Nat → Nat → Prop) (M : MX) (nm : Nat) (f : Nat → Int32) (S : Nat → Nat) (st : Nat → Int64) : Nat → Nat → Nat → Prop
  | 0, _, _ => True
  | n + 1, j, base => ∃ (i pc b : Nat) (os : List Nat), f (3 * (n + 1)) = nI pc ∧ f (3 * (n + 1) + 1) = nI b ∧ f (3 * (n + 1) + 2) = nI i ∧ i < nm ∧ M.2.2.1 i ≤ pc ∧ pc < M.2.2.2.1 i ∧ base ≤ 320 * (n + 1) ∧ b ≤ 320 * n ∧
      FrK fi S st (wos os (M.1 i pc)) b (M.2.1 i) base ∧ FrP fi S (M.2.2.2.2.1 i) (M.2.2.2.2.2 i) st (M.1 i pc) b ∧ Beh fi (M.2.2.2.2.1 j) os (M.1 i pc) (M.1 i (pc + 1)) ∧ CS fi M nm f S st n i b
section XS
variable {fi : Nat → Nat → Prop} {M : MX} {nm : Nat} {f f1 : Nat → Int32} {S S1 ph : Nat → Nat} {st st1 : Nat → Int64} {a : AS} {wp : Nat → Nat → Prop} {b sn top rt k : Nat}
theorem FrK.same (h : FrK fi S st a b sn top) (e : ∀ i : Nat, b ≤ i → i < top → st1 i = st i) : FrK fi S st1 a b sn top := by
  obtain ⟨h1, h2, h3, h4, h5, h6⟩ := h
  refine ⟨h1, h2, h3, fun s hs ht => ?_, fun s hs => ?_, h6.same (fun i hi hl => e i (by omega) hi)⟩
  · rw [e (b + s) (by omega) (by omega)]; exact h4 s hs ht
  · rw [e (b + s) (by omega) (by omega)]; exact h5 s hs
theorem FrP.same (h : FrP fi S rt wp st a b) (e : ∀ i : Nat, i < a.2.1 → st1 (b + i) = st (b + i)) : FrP fi S rt wp st1 a b := fun s h9 e9 hs he hc => by
  have z := e (s + 1) hs
  rw [show b + (s + 1) = b + s + 1 by omega] at z
  rw [e s (by omega), z]
  exact h s h9 e9 hs he hc
/-- what lies above is no matter -/
theorem CS.same : ∀ {n j base : Nat}, CS fi M nm f S st n j base → (∀ i : Nat, i < 3 * (n + 1) → f1 i = f i) → (∀ i : Nat, i < base → st1 i = st i) → CS fi M nm f1 S st1 n j base
  | 0, _, _, _, _, _ => trivial
  | n + 1, j, base, ⟨i, pc, b, os, h1, h2, h3, h4, h5, h6, h7, h8, h9, h10, h11, h12⟩, hf, hs => by
    have hk : (M.1 i pc).2.1 ≤ M.2.1 i := h9.2.1
    have ht : base = b + M.2.1 i + os.length := h9.2.2.1
    exact ⟨i, pc, b, os, (hf _ (by omega)).trans h1, (hf _ (by omega)).trans h2, (hf _ (by omega)).trans h3, h4, h5, h6, h7, h8, h9.same (fun i9 _ hi => hs i9 hi), h10.same (fun i9 hi => hs _ (by omega)), h11, h12.same (fun i9 hi => hf i9 (by omega)) (fun i9 hi => hs i9 (by omega))⟩
theorem FrP.map (h : FrP fi S rt wp st a b) (hs : ∀ p d : Nat, S p = d + 1 → S1 p = d + 1) : FrP fi S1 rt wp st a b := fun s h9 e9 hs9 he hc => (h s h9 e9 hs9 he hc).map (fun _ z => z.mono hs) hs
theorem VO.mono {v : Int64} (h : VO S v) (hs : ∀ p d : Nat, S p = d + 1 → S1 p = d + 1) : VO S1 v := by
  rcases h with h | ⟨p, d, h1, h2, h3⟩
  · exact Or.inl h
  · exact Or.inr ⟨p, d, h1, h2, hs p d h3⟩
/-- something new is made -/
theorem CS.grow (hs : ∀ p d : Nat, S p = d + 1 → S1 p = d + 1) : ∀ {n j base : Nat}, CS fi M nm f S st n j base → CS fi M nm f S1 st n j base
  | 0, _, _, _ => trivial
  | n + 1, j, base, ⟨i, pc, b, os, h1, h2, h3, h4, h5, h6, h7, h8, h9, h10, h11, h12⟩ =>
    ⟨i, pc, b, os, h1, h2, h3, h4, h5, h6, h7, h8, h9.map (fun _ _ z => z.mono hs) (fun _ z => z.mono hs), h10.map hs, h11, CS.grow hs h12⟩
/-- things have moved: the cells of a frame, all but those of slots that are not held -/
def MvS (ph : Nat → Nat) (st st1 : Nat → Int64) (b hc sn top : Nat) : Prop := ∀ i : Nat, b ≤ i → i < top → (i < b + hc ∨ b + sn ≤ i) → MV ph (st i) (st1 i)
theorem OpS.move (hs : SM S S1 ph) : ∀ {l : List Nat} {top : Nat}, OpS fi S st l top → (∀ i : Nat, i < top → top ≤ i + l.length → MV ph (st i) (st1 i)) → OpS fi S1 st1 l top
  | [], _, _, _ => trivial
  | t :: l, top, h, q => ⟨h.1, h.2.1.move (q (top - 1) (by have := h.1; omega) (by have := h.1; show top ≤ top - 1 + (l.length + 1); omega)) hs, OpS.move hs h.2.2 (fun i hi hl => q i (by omega) (by have h1 := h.1; show top ≤ i + (l.length + 1); omega))⟩
theorem FrK.move (h : FrK fi S st a b sn top) (hs : SM S S1 ph) (hm : MvS ph st st1 b k sn top) (hk : a.2.1 ≤ k) : FrK fi S1 st1 a b sn top := by
  obtain ⟨h1, h2, h3, h4, h5, h6⟩ := h
  refine ⟨h1, h2, h3, fun s hs9 ht => ?_, fun s hs9 => ?_, h6.move hs (fun i hi hl => hm i (by omega) hi (Or.inr (by omega)))⟩
  · exact (h4 s hs9 ht).move (hm (b + s) (by omega) (by omega) (Or.inl (by omega))) hs
  · exact (h5 s hs9).move (hm (b + s) (by omega) (by omega) (Or.inl (by omega))) hs
theorem FrP.move (h : FrP fi S rt wp st a b) (hs : SM S S1 ph) (hm : MvS ph st st1 b k sn top) (hk : a.2.1 ≤ k) (h2 : a.2.1 ≤ sn) (h3 : b + sn ≤ top) : FrP fi S1 rt wp st1 a b := fun s h9 e9 hs9 he hc => by
  have q := h s h9 e9 hs9 he hc
  have m1 := hm (b + s) (by omega) (by omega) (Or.inl (by omega))
  have m2 := hm (b + s + 1) (by omega) (by omega) (Or.inl (by omega))
  rw [q.way m1]
  exact q.move m2 hs
end XS

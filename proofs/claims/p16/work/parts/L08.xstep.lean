/-! a frame through a step -/
def FF (fi : Nat → Nat → Prop) (S : Nat → Nat) (rt : Nat) (wp : Nat → Nat → Prop) (st : Nat → Int64) (a : AS) (b sn top : Nat) : Prop := FrK fi S st a b sn top ∧ FrP fi S rt wp st a b
section XZ
variable {fi : Nat → Nat → Prop} {S S1 : Nat → Nat} {wp : Nat → Nat → Prop} {st st1 : Nat → Int64} {b sn top rt t k : Nat} {l : List Nat} {v : Int64} {a c : AS}
theorem FF.go (h : FF fi S rt wp st a b sn top) (g : Go fi a c) : FF fi S rt wp st c b sn top := ⟨h.1.go g, h.2.go g⟩
theorem FF.lo (h : FF fi S rt wp st a b sn top) : a.2.1 ≤ sn ∧ b + sn ≤ top ∧ top = b + sn + a.2.2.2.length := ⟨h.1.2.1, by have := h.1.2.2.1; omega, h.1.2.2.1⟩
theorem FF.push (h : FF fi S rt wp st a b sn top) (hv : VT fi S t v) (e1 : st1 top = v) (e2 : ∀ i : Nat, i < top → st1 i = st i) : FF fi S rt wp st1 (psh t a) b sn (top + 1) := by
  have z := h.lo
  exact ⟨h.1.push hv e1 e2, FrP.psh (h.2.same (fun i hi => e2 (b + i) (by omega)))⟩
theorem FF.pop (h : FF fi S rt wp st a b sn top) (e : a.2.2.2 = t :: l) : 1 ≤ top ∧ VT fi S t (st (top - 1)) ∧ FF fi S rt wp st (wos l a) b sn (top - 1) :=
  ⟨(h.1.pop e).1, (h.1.pop e).2.1, (h.1.pop e).2.2, h.2⟩
/-- a value in the place of the top -/
theorem FF.put (h : FF fi S rt wp st (wos l a) b sn top) (hv : VT fi S t v) (e1 : st1 top = v) (e2 : ∀ i : Nat, i < top → st1 i = st i) : FF fi S rt wp st1 (wos (t :: l) a) b sn (top + 1) := h.push hv e1 e2
theorem FF.slot (h : FF fi S rt wp st a b sn top) (wf : WfA a) (hk : k < a.2.1) (h9 : a.2.2.1 k < 900) (hv : VT fi S (a.2.2.1 k) v) (e1 : st1 (b + k) = v) (e2 : ∀ i : Nat, i < top → ¬ i = b + k → st1 i = st i) : FF fi S rt wp st1 a b sn top := by
  have z := h.lo
  exact ⟨h.1.slot hk (Or.inl hv) hv.ok e1 e2, h.2.stk wf (fun i hi h8 => e2 (b + i) (by omega) (fun y => by
    have y2 : i = k := by omega
    rw [y2] at h8; omega))⟩
theorem FF.clear (h : FF fi S rt wp st a b sn top) (wf : WfA a) (hks : a.2.1 < sn) (ht : t = 60 ∨ t = 61 ∨ RfT t) (e1 : st1 (b + a.2.1) = 0) (e2 : ∀ i : Nat, i < top → ¬ i = b + a.2.1 → st1 i = st i) : FF fi S rt wp st1 (a.1, a.2.1 + 1, upM a.2.2.1 a.2.1 t, a.2.2.2) b sn top := by
  have z := h.lo
  refine ⟨h.1.clear (Nat.le_refl _) hks ht e1 e2, h.2.clear wf ?_ (fun i hi => e2 (b + i) (by omega) (by omega))⟩
  rcases ht with w | w | w
  · omega
  · omega
  · exact Q900 w
theorem FF.grow (h : FF fi S rt wp st a b sn top) (hs : ∀ p d : Nat, S p = d + 1 → S1 p = d + 1) : FF fi S1 rt wp st a b sn top := ⟨h.1.map (fun _ _ z => z.mono hs) (fun _ z => z.mono hs), h.2.map hs⟩
/-- into a LAST from the end of its try -/
theorem FF.enter {x : Nat} (h : FF fi S rt wp st a b sn top) (wf : WfA a) (wc : WfA c) (hks : a.2.1 + 2 ≤ sn) (g : Go fi (a.1, a.2.1 + 2, upM (upM a.2.2.1 a.2.1 (1001 + 2 * x)) (a.2.1 + 1) 999, a.2.2.2) c)
    (e0 : st1 (b + a.2.1) = nmV (-1)) (e1 : st1 (b + a.2.1 + 1) = 0) (e2 : ∀ i : Nat, i < top → ¬ i = b + a.2.1 → ¬ i = b + a.2.1 + 1 → st1 i = st i) : FF fi S rt wp st1 c b sn top := by
  have z := h.lo
  obtain ⟨⟨h1, h2, h3, h4, h5, h6⟩, hp⟩ := h
  have n1 : ∀ s : Nat, s < a.2.1 → upM (upM a.2.2.1 a.2.1 (1001 + 2 * x)) (a.2.1 + 1) 999 s = a.2.2.1 s := fun s hs => by rw [upM_ne (by omega), upM_ne (by omega)]
  have n2 : upM (upM a.2.2.1 a.2.1 (1001 + 2 * x)) (a.2.1 + 1) 999 a.2.1 = 1001 + 2 * x := by rw [upM_ne (by omega), upM_eq]
  have k : FrK fi S st1 (a.1, a.2.1 + 2, upM (upM a.2.2.1 a.2.1 (1001 + 2 * x)) (a.2.1 + 1) 999, a.2.2.2) b sn top := by
    refine ⟨h1, hks, h3, fun s hs ht => ?_, fun s hs => ?_, h6.same (fun i hi hl => e2 i hi (by omega) (by omega))⟩
    · have hs9 : s < a.2.1 + 2 := hs
      have ht9 : upM (upM a.2.2.1 a.2.1 (1001 + 2 * x)) (a.2.1 + 1) 999 s < 900 := ht
      by_cases y1 : s = a.2.1
      · rw [y1, n2] at ht9; omega
      · by_cases y2 : s = a.2.1 + 1
        · rw [y2, upM_eq] at ht9; omega
        · show VT fi S (upM (upM a.2.2.1 a.2.1 (1001 + 2 * x)) (a.2.1 + 1) 999 s) _
          rw [n1 s (by omega)] at ht9 ⊢
          rw [e2 (b + s) (by omega) (by omega) (by omega)]
          exact h4 s (by omega) ht9
    · have hs9 : s < a.2.1 + 2 := hs
      by_cases y1 : s = a.2.1
      · rw [y1, e0]; exact Or.inl ⟨_, rfl⟩
      · by_cases y2 : s = a.2.1 + 1
        · rw [y2, show b + (a.2.1 + 1) = b + a.2.1 + 1 by omega, e1]; exact Or.inl ⟨0, nmV_0.symm⟩
        · rw [e2 (b + s) (by omega) (by omega) (by omega)]; exact h5 s (by omega)
  refine ⟨k.go g, FrP.go ?_ g⟩
  intro s h9 e9 hs he hc
  have hs9 : s + 1 < a.2.1 + 2 := hs
  have hc9 : upM (upM a.2.2.1 a.2.1 (1001 + 2 * x)) (a.2.1 + 1) 999 s = 1000 + 2 * h9 + e9 := hc
  by_cases y1 : s = a.2.1
  · rw [y1, n2] at hc9
    rw [y1, e0]
    exact Or.inl ⟨rfl, by omega⟩
  · rw [n1 s (by omega)] at hc9
    have w := wf s (by omega) (by omega)
    have w2 := e2 (b + s + 1) (by omega) (by omega) (by omega)
    rw [e2 (b + s) (by omega) (by omega) (by omega), w2]
    exact hp s h9 e9 w.1 he hc9
end XZ

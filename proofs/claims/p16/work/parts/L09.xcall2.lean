/-! a call begins, a call is over -/
section XV
variable {fi : Nat → Nat → Prop} {S : Nat → Nat} {st st1 : Nat → Int64} {b sn top rt t k : Nat} {pt : Nat → Nat} {v : Int64} {a c : AS} {M : MX} {nm : Nat} {f f1 : Nat → Int32}
theorem OpS.args : ∀ {ar rest : List Nat} {top : Nat}, OpS fi S st (ar ++ rest) top → ArgL fi pt ar → ar.length ≤ top ∧ OpS fi S st rest (top - ar.length) ∧ ∀ k : Nat, k < ar.length → VT fi S (pt k) (st (top - ar.length + k))
  | [], rest, top, h, _ => ⟨Nat.zero_le _, h, fun k hk => absurd hk (Nat.not_lt_zero _)⟩
  | t :: l, rest, top, h, q => by
    obtain ⟨h1, h2, h3⟩ : 1 ≤ top ∧ VT fi S t (st (top - 1)) ∧ OpS fi S st (l ++ rest) (top - 1) := h
    obtain ⟨r1, r2, r3⟩ := OpS.args h3 q.2
    have e : (t :: l).length = l.length + 1 := rfl
    rw [e]
    refine ⟨by omega, by rw [show top - (l.length + 1) = top - 1 - l.length by omega]; exact r2, fun k hk => ?_⟩
    by_cases z : k = l.length
    · subst z
      rw [show top - (l.length + 1) + l.length = top - 1 by omega]
      exact q.1 _ _ h2
    · rw [show top - (l.length + 1) + k = top - 1 - l.length + k by omega]
      exact r3 k (by omega)
/-- the slots with which a method begins: this, parameters -/
def EnA (ow np : Nat) (pt : Nat → Nat) (a : AS) : Prop := a.1 = 1 ∧ a.2.1 = np + 1 ∧ a.2.2.1 0 = ow ∧ (∀ k : Nat, k < np → a.2.2.1 (k + 1) = pt k) ∧ a.2.2.2 = [] ∧ ∀ s : Nat, s < np + 1 → a.2.2.1 s < 900
theorem FF.begin {wp : Nat → Nat → Prop} {ow np sj : Nat} {ar os : List Nat} {t : Nat} (h : OpS fi S st (ar ++ t :: os) top) (hq : ArgL fi pt ar) (hn : ar.length = np) (he : EnA ow np pt c) (hs : np + 1 ≤ sj) (ho : VT fi S ow (st (top - np - 1))) :
    FF fi S rt wp st c (top - np - 1) sj (top - np - 1 + sj) ∧ OpS fi S st os (top - np - 1) ∧ np + 1 ≤ top := by
  obtain ⟨e1, e2, e3, e4, e5, e6⟩ := he
  obtain ⟨r1, r2, r3⟩ := h.args hq
  rw [hn] at r1 r2 r3
  obtain ⟨p1, p2, p3⟩ : 1 ≤ top - np ∧ VT fi S t (st (top - np - 1)) ∧ OpS fi S st os (top - np - 1) := r2
  have vt : ∀ s : Nat, s < c.2.1 → VT fi S (c.2.2.1 s) (st (top - np - 1 + s)) := fun s hs9 => by
    by_cases z : s = 0
    · subst z; rw [e3]; exact ho
    · obtain ⟨k, hk⟩ : ∃ k, s = k + 1 := ⟨s - 1, by omega⟩
      subst hk
      rw [e4 k (by omega), show top - np - 1 + (k + 1) = top - np + k by omega]
      exact r3 k (by omega)
  refine ⟨⟨⟨e1, by omega, by rw [e5]; rfl, fun s hs9 _ => vt s hs9, fun s hs9 => (vt s hs9).ok, by rw [e5]; trivial⟩, fun s h9 e9 hs9 he9 hc => ?_⟩, p3, by omega⟩
  have := e6 s (by omega)
  omega
/-- the caller's frame, as it waits -/
theorem FrK.waits {ar os : List Nat} {t : Nat} (h : FrK fi S st a b sn top) (e : a.2.2.2 = ar ++ t :: os) (ho : OpS fi S st os (top - ar.length - 1)) : FrK fi S st (wos os a) b sn (top - ar.length - 1) := by
  obtain ⟨h1, h2, h3, h4, h5, h6⟩ := h
  refine ⟨h1, h2, ?_, h4, h5, ho⟩
  rw [e, List.length_append] at h3
  have h39 : top = b + sn + (ar.length + (os.length + 1)) := h3
  show top - ar.length - 1 = b + sn + os.length
  omega
/-- back at the caller -/
theorem FF.back {wp : Nat → Nat → Prop} {os : List Nat} {u : Nat} (h : FF fi S rt wp st (wos os a) b sn top) (g : Beh fi u os a c) (hu : u = 63) : FF fi S rt wp st c b sn top := h.go (g.1 hu)
theorem FF.backV {wp : Nat → Nat → Prop} {os : List Nat} {u : Nat} (h : FF fi S rt wp st (wos os a) b sn top) (g : Beh fi u os a c) (hu : ¬ u = 63) (hv : VT fi S u v) (e1 : st1 top = v) (e2 : ∀ i : Nat, i < top → st1 i = st i) : FF fi S rt wp st1 c b sn (top + 1) := (h.put hv e1 e2).go (g.2 hu)
end XV

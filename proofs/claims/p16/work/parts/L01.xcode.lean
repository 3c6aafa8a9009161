/-! the code, typed: at each place (comes one there: 1; slots that are held and typed; types of slots; types of operands, the top first) -/
abbrev AS : Type := Nat × Nat × (Nat → Nat) × List Nat
def psh (t : Nat) (a : AS) : AS := (a.1, a.2.1, a.2.2.1, t :: a.2.2.2)
def wos (l : List Nat) (a : AS) : AS := (a.1, a.2.1, a.2.2.1, l)
/-- what is of type t is of type u -/
def TL (fi : Nat → Nat → Prop) (t u : Nat) : Prop := ∀ (S : Nat → Nat) (v : Int64), VT fi S t v → VT fi S u v
def OL (fi : Nat → Nat → Prop) : List Nat → List Nat → Prop
  | [], [] => True
  | t :: x, u :: y => TL fi t u ∧ OL fi x y
  | _, _ => False
def Go (fi : Nat → Nat → Prop) (a b : AS) : Prop := b.1 = 1 ∧ b.2.1 ≤ a.2.1 ∧ (∀ s : Nat, s < b.2.1 → b.2.2.1 s = a.2.2.1 s) ∧ OL fi a.2.2.2 b.2.2.2
def maT (t : Nat) : Prop := t = 61 ∨ t = 161 ∨ t = 163
def maF (t : Nat) : Prop := t = 61 ∨ t = 162 ∨ t = 163
def BoT (t : Nat) : Prop := t = 61 ∨ t = 160 ∨ t = 161 ∨ t = 162 ∨ t = 163
/-- operands on the stack: l has the types of what lies below top -/
def OpS (fi : Nat → Nat → Prop) (S : Nat → Nat) (st : Nat → Int64) : List Nat → Nat → Prop
  | [], _ => True
  | t :: l, top => 1 ≤ top ∧ VT fi S t (st (top - 1)) ∧ OpS fi S st l (top - 1)
section XO
variable {fi : Nat → Nat → Prop} {S S1 : Nat → Nat} {st st1 : Nat → Int64} {l l1 : List Nat} {t u top k : Nat} {v : Int64} {a b c : AS}
theorem TL.rfl : TL fi t t := fun _ _ h => h
theorem OL.rfl : ∀ {l : List Nat}, OL fi l l
  | [] => trivial
  | _ :: _ => ⟨TL.rfl, OL.rfl⟩
theorem OL.len : ∀ {l l1 : List Nat}, OL fi l l1 → l.length = l1.length
  | [], [], _ => _root_.rfl
  | _ :: _, _ :: _, h => congrArg (· + 1) (OL.len h.2)
  | [], _ :: _, h => h.elim
  | _ :: _, [], h => h.elim
theorem OpS.sub : ∀ {l l1 : List Nat} {top : Nat}, OpS fi S st l top → OL fi l l1 → OpS fi S st l1 top
  | [], [], _, _, _ => trivial
  | _ :: _, _ :: _, _, h, q => ⟨h.1, q.1 _ _ h.2.1, OpS.sub h.2.2 q.2⟩
  | [], _ :: _, _, _, q => q.elim
  | _ :: _, [], _, _, q => q.elim
theorem OpS.same : ∀ {l : List Nat} {top : Nat}, OpS fi S st l top → (∀ i : Nat, i < top → top ≤ i + l.length → st1 i = st i) → OpS fi S st1 l top
  | [], _, _, _ => trivial
  | t :: l, top, h, q => ⟨h.1, by
      have h1 := h.1
      rw [q (top - 1) (by omega) (by show top ≤ top - 1 + (l.length + 1); omega)]
      exact h.2.1, OpS.same h.2.2 (fun i hi hl => q i (by omega) (by have h1 := h.1; show top ≤ i + (l.length + 1); omega))⟩
theorem OpS.map (hf : ∀ (t : Nat) (v : Int64), VT fi S t v → VT fi S1 t v) : ∀ {l : List Nat} {top : Nat}, OpS fi S st l top → OpS fi S1 st l top
  | [], _, _ => trivial
  | _ :: _, _, h => ⟨h.1, hf _ _ h.2.1, OpS.map hf h.2.2⟩
theorem Go.of (h1 : b.1 = 1) (h2 : b.2.1 = a.2.1) (h3 : b.2.2.1 = a.2.2.1) (h4 : b.2.2.2 = a.2.2.2) : Go fi a b := ⟨h1, by omega, fun s _ => by rw [h3], by rw [h4]; exact OL.rfl⟩
end XO
/-- a frame at a place: its slots and its operands are as the place says -/
def FrK (fi : Nat → Nat → Prop) (S : Nat → Nat) (st : Nat → Int64) (a : AS) (base sn top : Nat) : Prop :=
  a.1 = 1 ∧ a.2.1 ≤ sn ∧ top = base + sn + a.2.2.2.length ∧ (∀ s : Nat, s < a.2.1 → a.2.2.1 s < 900 → VT fi S (a.2.2.1 s) (st (base + s))) ∧ (∀ s : Nat, s < a.2.1 → VO S (st (base + s))) ∧ OpS fi S st a.2.2.2 top
section XF
variable {fi : Nat → Nat → Prop} {S S1 : Nat → Nat} {st st1 : Nat → Int64} {l l1 : List Nat} {t u top base sn k : Nat} {v : Int64} {a b c : AS}
theorem FrK.go (h : FrK fi S st a base sn top) (g : Go fi a b) : FrK fi S st b base sn top := by
  obtain ⟨h1, h2, h3, h4, h5, h6⟩ := h
  obtain ⟨g1, g2, g3, g4⟩ := g
  refine ⟨g1, by omega, by rw [h3, g4.len], fun s hs ht => ?_, fun s hs => h5 s (by omega), h6.sub g4⟩
  rw [g3 s hs] at ht ⊢
  exact h4 s (by omega) ht
theorem FrK.push (h : FrK fi S st a base sn top) (hv : VT fi S t v) (e1 : st1 top = v) (e2 : ∀ i : Nat, i < top → st1 i = st i) : FrK fi S st1 (psh t a) base sn (top + 1) := by
  obtain ⟨h1, h2, h3, h4, h5, h6⟩ := h
  refine ⟨h1, h2, by show top + 1 = base + sn + (a.2.2.2.length + 1); omega, fun s hs ht => ?_, fun s hs => ?_, by omega, by rw [show top + 1 - 1 = top from rfl, e1]; exact hv, h6.same (fun i hi _ => e2 i hi)⟩
  · rw [e2 (base + s) (by have : s < a.2.1 := hs; omega)]; exact h4 s hs ht
  · rw [e2 (base + s) (by have : s < a.2.1 := hs; omega)]; exact h5 s hs
theorem FrK.pop (h : FrK fi S st a base sn top) (e : a.2.2.2 = t :: l) : 1 ≤ top ∧ VT fi S t (st (top - 1)) ∧ FrK fi S st (wos l a) base sn (top - 1) := by
  obtain ⟨h1, h2, h3, h4, h5, h6⟩ := h
  rw [e] at h6 h3
  have h31 : top = base + sn + (l.length + 1) := h3
  exact ⟨h6.1, h6.2.1, h1, h2, by show top - 1 = base + sn + l.length; omega, h4, h5, h6.2.2⟩
theorem FrK.slot (h : FrK fi S st a base sn top) (hk : k < a.2.1) (hv : VT fi S (a.2.2.1 k) v ∨ 900 ≤ a.2.2.1 k) (ho : VO S v) (e1 : st1 (base + k) = v) (e2 : ∀ i : Nat, i < top → ¬ i = base + k → st1 i = st i) : FrK fi S st1 a base sn top := by
  obtain ⟨h1, h2, h3, h4, h5, h6⟩ := h
  refine ⟨h1, h2, h3, fun s hs ht => ?_, fun s hs => ?_, h6.same (fun i hi hl => e2 i hi (by omega))⟩
  · by_cases z : s = k
    · subst z
      rw [e1]
      rcases hv with w | w
      · exact w
      · omega
    · rw [e2 (base + s) (by omega) (by omega)]; exact h4 s hs ht
  · by_cases z : s = k
    · subst z; rw [e1]; exact ho
    · rw [e2 (base + s) (by omega) (by omega)]; exact h5 s hs
theorem FrK.clear (h : FrK fi S st a base sn top) (hk : k ≤ a.2.1) (hks : k < sn) (ht : t = 60 ∨ t = 61 ∨ RfT t) (e1 : st1 (base + k) = 0) (e2 : ∀ i : Nat, i < top → ¬ i = base + k → st1 i = st i) : FrK fi S st1 (a.1, k + 1, upM a.2.2.1 k t, a.2.2.2) base sn top := by
  obtain ⟨h1, h2, h3, h4, h5, h6⟩ := h
  refine ⟨h1, by show k + 1 ≤ sn; omega, h3, fun s hs ht9 => ?_, fun s hs => ?_, h6.same (fun i hi hl => e2 i hi (by omega))⟩
  · have hs9 : s < k + 1 := hs
    by_cases z : s = k
    · subst z
      show VT fi S (upM a.2.2.1 s t s) _
      rw [upM_eq, e1]; exact VT.zero ht
    · have ht8 : upM a.2.2.1 k t s < 900 := ht9
      rw [upM_ne z] at ht8
      show VT fi S (upM a.2.2.1 k t s) _
      rw [upM_ne z, e2 (base + s) (by omega) (by omega)]; exact h4 s (by omega) ht8
  · have hs9 : s < k + 1 := hs
    by_cases z : s = k
    · subst z; rw [e1]; exact Or.inl ⟨0, nmV_0.symm⟩
    · rw [e2 (base + s) (by omega) (by omega)]; exact h5 s (by omega)
theorem FrK.map (hf : ∀ (t : Nat) (v : Int64), VT fi S t v → VT fi S1 t v) (ho : ∀ v : Int64, VO S v → VO S1 v) (h : FrK fi S st a base sn top) : FrK fi S1 st a base sn top :=
  ⟨h.1, h.2.1, h.2.2.1, fun s hs ht => hf _ _ (h.2.2.2.1 s hs ht), fun s hs => ho _ (h.2.2.2.2.1 s hs), h.2.2.2.2.2.map hf⟩
end XF

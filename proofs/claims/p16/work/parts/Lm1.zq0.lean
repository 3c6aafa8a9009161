/-! statements: the loop that is around -/
def LpC (K : PK) (O L : Nat → Int32) (A : Nat → AS) (pd : Nat → Prop) (lq lw cs hd : Nat) (sl : Nat → Nat) (hdL : Nat) (slL : Nat → Nat) (xb xc : List Nat) : Prop :=
  ChnJ L (K.2.1 27 lq) xb ∧ ChnJ L (K.2.1 28 lq) xc ∧ LpJ O A xb lw cs hdL slL (K.2.1 29 lq) ∧ LpJ O A xc lw cs hdL slL (K.2.1 30 lq) ∧ AsO (K.2.1 29 lq) ∧ AsO (K.2.1 30 lq) ∧ (∀ z : Nat, z ∈ xb → pd z) ∧ (∀ z : Nat, z ∈ xc → pd z) ∧ hdL ≤ hd ∧ ∀ s : Nat, s < hdL → sl s = slL s
section ZQ
variable {K K1 K2 : PK} {O L O1 L1 : Nat → Int32} {A A1 : Nat → AS} {pd pd1 : Nat → Prop} {lq lw cs cs1 hd hd1 hdL : Nat} {sl sl1 slL : Nat → Nat} {xb xc : List Nat} {o : Option Nat}
/-- the loop's jumps stay as they are -/
theorem LpC.same (h : LpC K O L A pd lq lw cs hd sl hdL slL xb xc) (hk : ∀ f : Nat, 27 ≤ f → f ≤ 30 → K1.2.1 f lq = K.2.1 f lq) (hs : ∀ z : Nat, z < cs → O1 z = O z ∧ L1 z = L z ∧ A1 z = A z ∧ (pd z → pd1 z)) (hc : cs ≤ cs1) (hh : hdL ≤ hd1) (hsl : ∀ s : Nat, s < hdL → sl1 s = sl s) : LpC K1 O1 L1 A1 pd1 lq lw cs1 hd1 sl1 hdL slL xb xc := by
  obtain ⟨h1, h2, h3, h4, h5, h6, h7, h8, h9, h10⟩ := h
  have lb : ∀ z : Nat, z ∈ xb → z < cs := fun z hz => (h3 z hz).2.1
  have lc : ∀ z : Nat, z ∈ xc → z < cs := fun z hz => (h4 z hz).2.1
  refine ⟨?_, ?_, ?_, ?_, ?_, ?_, fun z hz => (hs z (lb z hz)).2.2.2 (h7 z hz), fun z hz => (hs z (lc z hz)).2.2.2 (h8 z hz), hh, fun s hs9 => (hsl s hs9).trans (h10 s hs9)⟩
  · rw [hk 27 (by omega) (by omega)]; exact h1.same (fun y hy => (hs y (lb y hy)).2.1)
  · rw [hk 28 (by omega) (by omega)]; exact h2.same (fun y hy => (hs y (lc y hy)).2.1)
  · rw [hk 29 (by omega) (by omega)]; exact h3.same (fun z hz => ⟨(hs z hz).1, (hs z hz).2.2.1⟩) hc
  · rw [hk 30 (by omega) (by omega)]; exact h4.same (fun z hz => ⟨(hs z hz).1, (hs z hz).2.2.1⟩) hc
  · rw [hk 29 (by omega) (by omega)]; exact h5
  · rw [hk 30 (by omega) (by omega)]; exact h6
end ZQ

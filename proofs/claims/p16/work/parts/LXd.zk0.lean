/-! what is known of an E's node by its kind -/
def EcO (g : Nat → Nat → Nat) (x : Nat) : Prop := 1 ≤ tlE g x ∧ 1 ≤ ndE g x
def EkO (pb : PNb) (K : PK) (g : Nat → Nat → Nat) (kd ty : Nat → Int32) (sz q : Nat) : Prop :=
  ((K.2.1 0 q = 7 ∨ K.2.1 0 q = 9 ∨ K.2.1 0 q = 12 ∨ K.2.1 0 q = 13 ∨ K.2.1 0 q = 15 ∨ K.2.1 0 q = 16 ∨ K.2.1 0 q = 19) → ∀ x : Nat, K.2.2.1 0 q = some x → EcO g x ∧ tlE g x + 1 ≤ tlE g q ∧ ndE g x ≤ ndE g q ∧ InE g q x) ∧
  ((K.2.1 0 q = 14 ∨ K.2.1 0 q = 17 ∨ K.2.1 0 q = 18) → ∀ x y : Nat, K.2.2.1 0 q = some x → K.2.2.1 1 q = some y → EcO g x ∧ EcO g y ∧ tlE g x + tlE g y + 1 ≤ tlE g q ∧ ndE g x ≤ ndE g q ∧ ndE g y + 1 ≤ ndE g q ∧ InE g q x ∧ InE g q y) ∧
  (K.2.1 0 q = 20 → ∀ x y z : Nat, K.2.2.1 0 q = some x → K.2.2.1 1 q = some y → K.2.2.1 2 q = some z → EcO g x ∧ EcO g y ∧ EcO g z ∧ tlE g x + tlE g y + tlE g z + 2 ≤ tlE g q ∧ ndE g x ≤ ndE g q ∧ ndE g y ≤ ndE g q ∧ ndE g z ≤ ndE g q ∧ InE g q x ∧ InE g q y ∧ InE g q z) ∧
  ((K.2.1 0 q = 10 ∨ K.2.1 0 q = 11) → ArF K g q ∧ (rS (g 2 q) + 1 ≤ rM (g 2 q) ∧ rM (g 2 q) + 1 ≤ rE (g 2 q)) ∧ ∀ x : Nat, K.2.2.1 0 q = some x → EcO g x ∧ ndE g x ≤ ndE g q ∧ tlE g x + rS (g 2 q) + 1 ≤ rM (g 2 q) ∧ InE g q x) ∧
  (K.2.1 0 q = 15 → PfK (tkN kd sz 67 (K.2.1 1 q))) ∧ (K.2.1 0 q = 17 → SnK (tkN kd sz 67 (K.2.1 1 q))) ∧ ObK pb K ty sz q ∧ (K.2.1 0 q = 9 → tyN ty sz (K.2.1 1 q) < 62)
def EkA (pb : PNb) (K : PK) (g : Nat → Nat → Nat) (kd ty : Nat → Int32) (sz : Nat) : Prop := ∀ q : Nat, K.1 q = 1 → 1 ≤ g 0 q → EkO pb K g kd ty sz q
section ZK
variable {pb : PNb} {K K1 : PK} {g : Nat → Nat → Nat} {kd ty kd1 ty1 : Nat → Int32} {sz q t : Nat}
theorem BdE.old1 (hb : BdE K K1) (h : K1.1 q = 1) : K.1 q = 1 := by
  by_cases z : K.1 q = 0
  · rcases hb.2 q z with w | w
    · rw [h] at w; exact absurd w (by decide)
    · rw [h] at w; exact absurd w (by decide)
  · exact (hb.1 q z).1.symm.trans h
theorem EkA.be (hb : BdE K K1) (e1 : kd1 = kd) (e2 : ty1 = ty) (h : EkA pb K g kd ty sz) : EkA pb K1 g kd1 ty1 sz := fun q hq hl => by
  subst e1
  subst e2
  have hq0 := hb.old1 hq
  have hn : ¬ K.1 q = 0 := by rw [hq0]; decide
  obtain ⟨a1, a2, a3, a4, a5, a6, a7, a8⟩ := h q hq0 hl
  have k0 : K1.2.1 0 q = K.2.1 0 q := hb.I hn (by decide) (by decide)
  have k1 : K1.2.1 1 q = K.2.1 1 q := hb.I hn (by decide) (by decide)
  unfold EkO ObK
  rw [k0, k1, hb.C hn 0, hb.C hn 1, hb.C hn 2]
  exact ⟨a1, a2, a3, fun z => ⟨(a4 z).1.be hb hq0, (a4 z).2⟩, a5, a6, a7, a8⟩
theorem EmS.elemT {fi : Nat → Nat → Prop} {fdn : Nat → Nat} {fty : Nat → Nat → Nat} {X : PXm} {O L R H : Nat → Int32} {A : Nat → AS} {pd : Nat → Prop} {m sn lo cs hd u : Nat} {sl : Nat → Nat} {os : List Nat} {as l r : Int32} (h : EmS fi fdn fty X O L R H A pd m sn lo cs as hd sl (u :: (t + 64) :: os)) (hl : (u :: (t + 64) :: os).length ≤ 248) (ht : t < 64) : EvQ fi fdn fty X O L R H (upI O cs (nI 19)) (upI L cs l) (upI R cs r) (upI H cs (nI hd)) A (upS A (cs + 1) (rcA as, hd, sl, t :: os)) pd m sn lo cs (cs + 1) as as hd sl (t :: os) :=
  h.elem (c := t + 64) hl ⟨by omega, by omega⟩
end ZK

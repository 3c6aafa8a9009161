/-! code as it is written: what is known where the next instruction will stand -/
def rcA (as : Int32) : Nat := if as = -1 then 0 else 1
/-- the code up to cs is right; at cs: assigned is as, hd slots are held, of the types sl, and operands of the types os lie there -/
def ETy (fi : Nat → Nat → Prop) (fdn : Nat → Nat) (fty : Nat → Nat → Nat) (X : PXm) (O L R : Nat → Int32) (A : Nat → AS) (pd : Nat → Prop) (m sn lo cs : Nat) (as : Int32) (hd : Nat) (sl : Nat → Nat) (os : List Nat) : Prop :=
  CT fi fdn fty X SgT PfT O L R A pd m sn lo cs ∧ A cs = (rcA as, hd, sl, os)
section XW
variable {fi : Nat → Nat → Prop} {fdn : Nat → Nat} {fty : Nat → Nat → Nat} {X : PXm} {pd pd1 : Nat → Prop} {m sn sn1 lo k cs hd hd1 x : Nat} {l r v as as1 : Int32} {O L R L1 : Nat → Int32} {A : Nat → AS} {sl sl1 : Nat → Nat} {os os1 : List Nat} {a b : AS}
theorem rcA_1 (h : ¬ as = -1) : rcA as = 1 := if_neg h
theorem rcA_0 : rcA (-1) = 0 := if_pos rfl
theorem rcA_of (h : rcA as = 1) : ¬ as = -1 := fun e => by
  rw [e, rcA_0] at h
  exact absurd h (by decide)
theorem Go.rfl (h : a.1 = 1) : Go fi a a := ⟨h, Nat.le_refl _, fun _ _ => Eq.refl _, OL.rfl⟩
theorem go1 (z : ¬ as = -1) : Go fi (1, hd, sl, os) (rcA as, hd, sl, os) := by
  rw [rcA_1 z]
  exact Go.rfl (Eq.refl _)
theorem ETy.emit (h : ETy fi fdn fty X O L R A pd m sn lo cs as hd sl os) (hs : sn ≤ sn1) (hk : k < 31)
    (hr : ¬ as = -1 → IRk fi fdn fty X SgT PfT (fun y => lo ≤ y ∧ y < cs + 1 ∧ upI O cs (nI k) y = 0) cs m sn1 (cs + 1) l r (1, hd, sl, os) (rcA as1, hd1, sl1, os1) (upS A (cs + 1) (rcA as1, hd1, sl1, os1)) k) :
    ETy fi fdn fty X (upI O cs (nI k)) (upI L cs l) (upI R cs r) (upS A (cs + 1) (rcA as1, hd1, sl1, os1)) pd m sn1 lo (cs + 1) as1 hd1 sl1 os1 := by
  obtain ⟨h1, h2⟩ := h
  refine ⟨h1.emit hs (fun e => ?_), upS_eq⟩
  rw [h2] at e ⊢
  have e9 : rcA as = 1 := e
  rw [e9]
  exact ⟨hk, hr (rcA_of e9)⟩
/-- where no run comes any instruction may stand -/
theorem ETy.dead (h : ETy fi fdn fty X O L R A pd m sn lo cs (-1) hd sl os) (hs : sn ≤ sn1) : ETy fi fdn fty X (upI O cs v) (upI L cs l) (upI R cs r) (upS A (cs + 1) (0, hd1, sl1, os1)) pd m sn1 lo (cs + 1) (-1) hd1 sl1 os1 := by
  obtain ⟨h1, h2⟩ := h
  refine ⟨fun pc h0 hx h3 h4 => ?_, by rw [upS_eq, rcA_0]⟩
  by_cases z : pc = cs
  · subst z
    rw [upS_ne (by omega), h2] at h3
    have h39 : rcA (-1) = 1 := h3
    rw [rcA_0] at h39
    exact absurd h39 (by decide)
  · exact h1.more hs (fun _ w => w) (by omega) h0 h3 h4
/-- a jump that will be aimed later -/
theorem ETy.pend (h : ETy fi fdn fty X O L R A pd m sn lo cs as hd sl os) (hs : sn ≤ sn1) : ETy fi fdn fty X (upI O cs v) (upI L cs l) (upI R cs r) (upS A (cs + 1) (rcA as1, hd1, sl1, os1)) (fun y => pd y ∨ y = cs) m sn1 lo (cs + 1) as1 hd1 sl1 os1 :=
  ⟨h.1.pend hs, upS_eq⟩
/-- what is assigned changes, but not whether one comes there -/
theorem ETy.asg (h : ETy fi fdn fty X O L R A pd m sn lo cs as hd sl os) (e : as = -1 ↔ as1 = -1) : ETy fi fdn fty X O L R A pd m sn lo cs as1 hd sl os := by
  refine ⟨h.1, h.2.trans ?_⟩
  unfold rcA
  by_cases z : as = -1
  · rw [if_pos z, if_pos (e.mp z)]
  · rw [if_neg z, if_neg (fun w => z (e.mpr w))]
/-- the place is asked for less: fewer slots, or one comes there too -/
theorem ETy.weak (h : ETy fi fdn fty X O L R A pd m sn lo cs as hd sl os) (e : ¬ as = -1 → Go fi (1, hd, sl, os) (rcA as1, hd1, sl1, os1)) : ETy fi fdn fty X O L R (upS A cs (rcA as1, hd1, sl1, os1)) pd m sn lo cs as1 hd1 sl1 os1 := by
  refine ⟨h.1.land (fun z => ?_) (fun _ _ => Eq.refl _) (fun y _ _ h3 h4 => absurd h3 h4), upS_eq⟩
  rw [h.2] at z ⊢
  have z9 : rcA as = 1 := z
  rw [z9]
  exact e (rcA_of z9)
/-- jumps come to the place -/
theorem ETy.land {xs : List Nat} (h : ETy fi fdn fty X O L R A pd m sn lo cs as hd sl os) (e : ¬ as = -1 → Go fi (1, hd, sl, os) (rcA as1, hd1, sl1, os1)) (hp : ∀ y : Nat, y ∈ xs → pd y) (hp1 : ∀ y : Nat, pd y → ¬ y ∈ xs → pd1 y)
    (hx : ∀ y : Nat, y ∈ xs → lo ≤ y → y < cs → (A y).1 = 1 → ∃ k : Nat, k < 31 ∧ O y = nI k ∧ IRk fi fdn fty X SgT PfT (fun z => lo ≤ z ∧ z < cs ∧ O z = 0) y m sn cs (nI cs) (R y) (A y) (upS A cs (rcA as1, hd1, sl1, os1) (y + 1)) (upS A cs (rcA as1, hd1, sl1, os1)) k) :
    ETy fi fdn fty X O (aim L xs cs) R (upS A cs (rcA as1, hd1, sl1, os1)) pd1 m sn lo cs as1 hd1 sl1 os1 := by
  refine ⟨h.1.land (fun z => ?_) (fun y hy => aim_no (fun w => hy (hp y w))) (fun y y1 y2 y3 y4 y5 => ?_), upS_eq⟩
  · rw [h.2] at z ⊢
    have z9 : rcA as = 1 := z
    rw [z9]
    exact e (rcA_of z9)
  · have w : y ∈ xs := Classical.byContradiction fun w => y4 (hp1 y y3 w)
    rw [aim_in w]
    exact hx y w y1 y2 y5
end XW
/-- the operands behind an E of type code u (63: nothing) -/
def rsO (u : Nat) (os : List Nat) : List Nat := if u = 63 then os else u :: os
/-- the code u of an E's type r; truths that are known by what is assigned -/
def UT (u : Nat) (r as wt wf : Int32) : Prop := (r = nI u ∧ ¬ u = 61 ∧ u < 128 ∧ wt = as ∧ wf = as) ∨ (r = 61 ∧ BoT u ∧ (¬ as = -1 → (maT u → ¬ wt = -1) ∧ (maF u → ¬ wf = -1)))
section XU
variable {u : Nat} {r as wt wf : Int32} {os : List Nat}
theorem rsO_63 : rsO 63 os = os := if_pos rfl
theorem rsO_ne (h : ¬ u = 63) : rsO u os = u :: os := if_neg h
theorem UT.any (h : BoT u) (h2 : r = 61) (ht : ¬ as = -1 → ¬ wt = -1) (hf : ¬ as = -1 → ¬ wf = -1) : UT u r as wt wf := Or.inr ⟨h2, h, fun z => ⟨fun _ => ht z, fun _ => hf z⟩⟩
theorem UT.plain (h : r = nI u) (h61 : ¬ u = 61) (h2 : u < 128) : UT u r as as as := Or.inl ⟨h, h61, h2, rfl, rfl⟩
end XU

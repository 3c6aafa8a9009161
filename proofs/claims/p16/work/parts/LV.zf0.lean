/-! judging: types, variables, what an E leaves -/
abbrev PNb : Type := (Nat → Nat → Prop) × (Nat → Nat) × (Nat → Nat → Nat) × PXm
/-- a type as values have it -/
def tyc (t : Nat) : Nat := if t = 63 then 62 else t
def TyV (nd t : Nat) : Prop := t < nd ∨ t = 60 ∨ t = 61 ∨ t = 63 ∨ (64 ≤ t ∧ t < 64 + nd) ∨ t = 124 ∨ t = 125
def TyR (f : Nat → Int32) (nd sz : Nat) : Prop := ∀ i : Nat, i < sz → ∃ t : Nat, (f i = nI t ∧ t < 128) ∧ TyV nd t
/-- the type at a token -/
def tyN (f : Nat → Int32) (sz : Nat) (x : Int32) : Nat := if x < 0 ∨ nI sz ≤ x then 63 else (f x.toNatClampNeg).toNatClampNeg
/-- variables in scope: slots and their types -/
def EnV (f26 f27 : Nat → Int32) (nd vr hd c0 : Nat) (sl : Nat → Nat) : Prop := (1 ≤ hd ∧ sl 0 = c0 ∧ c0 < nd) ∧ ∀ i : Nat, i < vr → ∃ s t : Nat, f27 i = nI s ∧ 1 ≤ s ∧ s < hd ∧ f26 i = nI t ∧ TyV nd t ∧ sl s = tyc t
def tlE (g : Nat → Nat → Nat) (q : Nat) : Nat := rE (g 2 q) - rS (g 2 q)
def ndE (g : Nat → Nat → Nat) (q : Nat) : Nat := rD (g 2 q)
def CaK (k : Int32) : Prop := k = 10 ∨ k = 11
abbrev EmB (pb : PNb) (B : Nat → Nat → Int32) (A : Nat → AS) (pd : Nat → Prop) (m sn lo cs : Nat) (as : Int32) (hd : Nat) (sl : Nat → Nat) (os : List Nat) : Prop := EmS pb.1 pb.2.1 pb.2.2.1 pb.2.2.2 (B 16) (B 17) (B 18) (B 19) A pd m sn lo cs as hd sl os
abbrev EvB (pb : PNb) (B B1 : Nat → Nat → Int32) (A A1 : Nat → AS) (pd : Nat → Prop) (m sn lo cs cs1 : Nat) (as0 as1 : Int32) (hd : Nat) (sl : Nat → Nat) (os1 : List Nat) : Prop := EvQ pb.1 pb.2.1 pb.2.2.1 pb.2.2.2 (B 16) (B 17) (B 18) (B 19) (B1 16) (B1 17) (B1 18) (B1 19) A A1 pd m sn lo cs cs1 as0 as1 hd sl os1
/-- what an E leaves: nothing is said of one without a type, but for calls -/
def VaQ (pb : PNb) (B B1 : Nat → Nat → Int32) (A A1 : Nat → AS) (pd : Nat → Prop) (m sn lo cs cs1 : Nat) (as0 as1 wt1 wf1 : Int32) (hd : Nat) (sl : Nat → Nat) (os : List Nat) (t1 u1 : Nat) (k : Int32) : Prop :=
  (t1 = 63 ∧ ¬ CaK k) ∨ (EvB pb B B1 A A1 pd m sn lo cs cs1 as0 as1 hd sl (rsO u1 os) ∧ UTb u1 (nI t1) as1 wt1 wf1 ∧ cs < cs1)
/-- only the code's rows have changed -/
def BeR (B B1 : Nat → Nat → Int32) : Prop := ∀ i : Nat, ¬ (16 ≤ i ∧ i ≤ 19) → B1 i = B i
/-- slots of fields stay -/
def BeF (K K1 : PK) : Prop := ∀ p : Nat, K.1 p = 1 → K.2.1 0 p = 36 → K1.2.1 5 p = K.2.1 5 p
/-- only Loops' numbers of lq have changed -/
def BeL (K K1 : PK) (o : Option Nat) : Prop := ∀ p : Nat, K.1 p = 9 → ¬ o = some p → ∀ f : Nat, K1.2.1 f p = K.2.1 f p
/-- numbers of fields are written only within the E -/
def InE (g : Nat → Nat → Nat) (q p : Nat) : Prop := rS (g 2 q) ≤ rS (g 2 p) ∧ rE (g 2 p) ≤ rE (g 2 q)
def BeI (K K1 : PK) (g : Nat → Nat → Nat) (q : Nat) : Prop := ∀ p : Nat, K.1 p = 1 → ¬ InE g q p → K1.2.1 5 p = K.2.1 5 p
section ZF
variable {fi : Nat → Nat → Prop} {fdn : Nat → Nat} {fty : Nat → Nat → Nat} {X : PXm} {pb : PNb} {B B1 B2 : Nat → Nat → Int32} {K K1 K2 : PK} {A A1 A2 : Nat → AS} {pd : Nat → Prop} {m sn lo cs cs1 cs2 hd t u t1 u1 nd sz vr c0 i : Nat} {as as1 as2 wt wf wt1 wf1 x k : Int32} {sl : Nat → Nat} {os os1 os2 : List Nat} {f f26 f27 : Nat → Int32} {S : Nat → Nat}
theorem BeR.rfl : BeR B B := fun _ _ => Eq.refl _
theorem BeR.trans (h : BeR B B1) (q : BeR B1 B2) : BeR B B2 := fun i hi => (q i hi).trans (h i hi)
theorem BeL.rfl {o : Option Nat} : BeL K K o := fun _ _ _ _ => Eq.refl _
theorem BeL.trans {o : Option Nat} (h : BeL K K1 o) (q : BeL K1 K2 o) (hb : BdE K K1) : BeL K K2 o := fun p hp hn f => (q p (hb.T hp (by decide)) hn f).trans (h p hp hn f)
theorem BeL.put {q f : Nat} {v : Int32} {o : Option Nat} (h : K.1 q = 1) : BeL K (kI K f q v) o := fun p hp _ g => kI_ne (fun z => by rw [z, h] at hp; exact absurd hp (by decide))
theorem InE.rfl {g : Nat → Nat → Nat} {q : Nat} : InE g q q := ⟨Nat.le_refl _, Nat.le_refl _⟩
theorem BeI.rfl {g : Nat → Nat → Nat} {q : Nat} : BeI K K g q := fun _ _ _ => Eq.refl _
theorem BeI.trans {g : Nat → Nat → Nat} {q x : Nat} (h : BeI K K1 g q) (w : BeI K1 K2 g x) (hb : BdE K K1) (hx : InE g q x) : BeI K K2 g q := fun p hp hn =>
  (w p (hb.T hp (by decide)) (fun z => hn ⟨Nat.le_trans hx.1 z.1, Nat.le_trans z.2 hx.2⟩)).trans (h p hp hn)
theorem BeI.put {g : Nat → Nat → Nat} {q : Nat} {v : Int32} : BeI K (kI K 5 q v) g q := fun p _ hn => kI_ne (fun z => hn (by rw [z]; exact InE.rfl))
theorem BeF.rfl : BeF K K := fun _ _ _ => Eq.refl _
theorem BeF.trans (h : BeF K K1) (q : BeF K1 K2) (hb : BdE K K1) : BeF K K2 := fun p hp hk => by
  have hn : ¬ K.1 p = 0 := by rw [hp]; decide
  exact (q p (hb.T hp (by decide)) ((hb.I hn (by decide) (by decide)).trans hk)).trans (h p hp hk)
theorem BeF.put {q : Nat} {v : Int32} (h : ¬ K.2.1 0 q = 36) : BeF K (kI K 5 q v) := fun p hp hk => kI_ne (fun z => h (by rw [← z]; exact hk))
theorem AsE.and (h : AsE as as1) (q : AsE as as2) : AsE as (as1 &&& as2) := by
  rcases h with e | e <;> rcases q with e2 | e2 <;> rw [e, e2]
  · exact Or.inl Int32.and_self
  · exact Or.inl Int32.and_neg_one
  · exact Or.inl Int32.neg_one_and
  · exact Or.inr (by decide)
theorem tyc_ne (h : ¬ t = 63) : tyc t = t := if_neg h
theorem TyV.lt (h : TyV nd t) (hn : nd ≤ 37) : t < 128 := by unfold TyV at h; omega
theorem TyV.ty (h : TyV nd t) (hn : nd ≤ 37) : tyc t = 60 ∨ tyc t = 61 ∨ RfT (tyc t) := by
  unfold tyc
  by_cases z : t = 63
  · rw [if_pos z]; exact Or.inr (Or.inr (by unfold RfT; omega))
  · rw [if_neg z]
    unfold TyV at h
    unfold RfT
    omega
theorem tyN_in (hi : i < sz) (hs : sz ≤ 100000) : tyN f sz (nI i) = (f i).toNatClampNeg := by
  unfold tyN
  rw [if_neg (fun z => ?_), nI_clamp (by omega)]
  rcases z with z | z
  · have := (nI_ltI (a := i) (b := 0) (by omega) (by omega)).mp z
    omega
  · have := (nI_leI (a := sz) (b := i) (by omega) (by omega)).mp z
    omega
/-- what typeAt answers -/
theorem TyR.at (h : TyR f nd sz) (hs : sz ≤ 100000) (hi : i < sz) : f i = nI (tyN f sz (nI i)) ∧ TyV nd (tyN f sz (nI i)) := by
  obtain ⟨t, ⟨h1, ht9⟩, h2⟩ := h i hi
  have ht : t < 2 ^ 31 := by omega
  rw [tyN_in hi hs, h1, nI_clamp ht]
  exact ⟨Eq.refl _, h2⟩
theorem tyN_out (h : x < 0 ∨ nI sz ≤ x) : tyN f sz x = 63 := if_pos h
theorem TyR.V (h : TyR f nd sz) (hs : sz ≤ 100000) : TyV nd (tyN f sz x) := by
  by_cases z : x < 0 ∨ nI sz ≤ x
  · rw [tyN_out z]; unfold TyV; omega
  · obtain ⟨j, hj, hj2⟩ := nI_nn2 (x := x) (fun w => z (Or.inl w))
    subst hj
    have hi : j < sz := Classical.byContradiction fun w => z (Or.inr ((nI_leI (a := sz) (b := j) (by omega) (by omega)).mpr (by omega)))
    exact (h.at hs hi).2
/-- before anything has come -/
theorem EvB.nil (h : EmB pb B A pd m sn lo cs as hd sl os) : EvB pb B B A A pd m sn lo cs cs as as hd sl os := ⟨h, SmB.rfl, EvC.nil, Nat.le_refl _, Eq.refl _, AsE.rfl⟩
theorem UTb.op (h : UTb u (nI t) as wt wf) (ht : t < 128) (hn : ¬ t = 63) : ¬ u = 63 := fun e => by
  rcases h with ⟨h1, _⟩ | ⟨_, h1, _⟩
  · rw [e] at h1
    exact hn ((nI_eq (by omega) (by omega)).mp h1)
  · unfold BoT at h1; omega
/-- a part has been judged, and has a type -/
theorem VaQ.part (h : EvB pb B B1 A A1 pd m sn lo cs cs1 as as1 hd sl os1) (q : VaQ pb B1 B2 A1 A2 pd m sn lo cs1 cs2 as1 as2 wt1 wf1 hd sl os1 t1 u1 k) (ht : t1 < 128) (hn : ¬ t1 = 63) : EvB pb B B2 A A2 pd m sn lo cs cs2 as as2 hd sl (u1 :: os1) ∧ UTb u1 (nI t1) as2 wt1 wf1 := by
  rcases q with q | ⟨q1, q2, _⟩
  · exact absurd q.1 hn
  · rw [rsO_ne (q2.op ht hn)] at q1
    exact ⟨h.trans q1, q2⟩
/-- an E's type is one that values have -/
theorem UTb.tl (h : UTb u (nI t) as wt wf) (ht : t < 128) : TL fi u t := by
  rcases h with ⟨h1, h2, h3, _⟩ | ⟨h1, h2, _⟩
  · have e := (nI_eq (by omega) (by omega)).mp h1
    rw [e]; exact TL.rfl
  · have e : t = 61 := (nI_eq (b := 61) (by omega) (by omega)).mp h1
    rw [e]; exact h2.le
theorem UTb.eq (h : UTb u (nI t) as wt wf) (ht : t < 128) (h61 : ¬ t = 61) : u = t := by
  rcases h with ⟨h1, h2, h3, _⟩ | ⟨h1, _⟩
  · exact ((nI_eq (by omega) (by omega)).mp h1).symm
  · exact absurd ((nI_eq (b := 61) (by omega) (by omega)).mp h1) h61
end ZF

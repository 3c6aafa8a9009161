/-! jumps within an E: truths and choices -/
/-- may it be true, may it be false -/
def tfl (u : Nat) : Nat := if u = 61 ∨ u = 161 ∨ u = 163 then 1 else 0
def ffl (u : Nat) : Nat := if u = 61 ∨ u = 162 ∨ u = 163 then 1 else 0
def bcd (x y : Nat) : Nat := 160 + x + 2 * y
section ZC
variable {fi : Nat → Nat → Prop} {fdn : Nat → Nat} {fty : Nat → Nat → Nat} {X : PXm} {O L R H O1 L1 R1 H1 O2 L2 R2 H2 : Nat → Int32} {A A1 A2 : Nat → AS} {pd pd1 : Nat → Prop} {m sn sn1 lo cs cs1 cs2 hd hd1 hq k t u x y u2 : Nat} {l r v as as1 as2 wt wf : Int32} {sl sl1 : Nat → Nat} {os os1 : List Nat} {S : Nat → Nat} {w : Int64}
theorem tfl_le : tfl u ≤ 1 := by
  unfold tfl
  by_cases h : u = 61 ∨ u = 161 ∨ u = 163
  · rw [if_pos h]; exact Nat.le_refl _
  · rw [if_neg h]; exact Nat.zero_le _
theorem ffl_le : ffl u ≤ 1 := by
  unfold ffl
  by_cases h : u = 61 ∨ u = 162 ∨ u = 163
  · rw [if_pos h]; exact Nat.le_refl _
  · rw [if_neg h]; exact Nat.zero_le _
theorem tfl_1 (h : maT u) : tfl u = 1 := if_pos h
theorem ffl_1 (h : maF u) : ffl u = 1 := if_pos h
theorem tfl_of (h : tfl u = 1) : maT u := Classical.byContradiction fun z => by
  rw [show tfl u = 0 from if_neg z] at h
  exact absurd h (by decide)
theorem ffl_of (h : ffl u = 1) : maF u := Classical.byContradiction fun z => by
  rw [show ffl u = 0 from if_neg z] at h
  exact absurd h (by decide)
theorem bcd_bo (hx : x ≤ 1) (hy : y ≤ 1) : BoT (bcd x y) := by unfold BoT bcd; omega
theorem bcd_t (hx : x ≤ 1) (hy : y ≤ 1) (h : maT (bcd x y)) : x = 1 := by unfold maT bcd at h; omega
theorem bcd_f (hx : x ≤ 1) (hy : y ≤ 1) (h : maF (bcd x y)) : y = 1 := by unfold maF bcd at h; omega
/-- a truth, by what it may be -/
theorem VT.bcd (hb : BoT u) (h : VT fi S u w) (hx : x ≤ 1) (hy : y ≤ 1) (h1 : maT u → x = 1) (h2 : maF u → y = 1) : VT fi S (bcd x y) w := by
  rcases hb.val h with e | e
  · have f := h2 (h.isF hb e)
    by_cases z : x = 1
    · rw [z, f]; exact Or.inr (Or.inl ⟨Or.inr rfl, Or.inl e⟩)
    · have z0 : x = 0 := by omega
      rw [z0, f]; exact Or.inr (Or.inr (Or.inr (Or.inl ⟨rfl, e⟩)))
  · have f := h1 (h.isT hb (by rw [e]; decide))
    by_cases z : y = 1
    · rw [z, f]; exact Or.inr (Or.inl ⟨Or.inr rfl, Or.inr e⟩)
    · have z0 : y = 0 := by omega
      rw [z0, f]; exact Or.inr (Or.inr (Or.inl ⟨rfl, e⟩))
theorem TL.bcd (hb : BoT u) (hx : x ≤ 1) (hy : y ≤ 1) (h1 : maT u → x = 1) (h2 : maF u → y = 1) : TL fi u (bcd x y) := fun _ _ h => h.bcd hb hx hy h1 h2
theorem OL.one (h : TL fi t u) : OL fi (t :: os) (u :: os) := ⟨h, OL.rfl⟩
theorem bo161 : BoT 161 := Or.inr (Or.inr (Or.inl rfl))
theorem bo162 : BoT 162 := Or.inr (Or.inr (Or.inr (Or.inl rfl)))
/-- a jump that is to be aimed later -/
theorem EmS.pend (h : EmS fi fdn fty X O L R H A pd m sn lo cs as hd sl os) (hl : os.length ≤ 248) (hk : ¬ k = 21 ∧ ¬ k = 22 ∧ ¬ k = 23 ∧ ¬ k = 24 ∧ k < 31) :
    EmS fi fdn fty X (upI O cs (nI k)) (upI L cs l) (upI R cs r) (upI H cs (nI hd)) (upS A (cs + 1) (rcA as1, hd, sl, os1)) (fun z => pd z ∨ z = cs) m sn lo (cs + 1) as1 hd sl os1 ∧ SmB O L R H (upI O cs (nI k)) (upI L cs l) (upI R cs r) (upI H cs (nI hd)) A (upS A (cs + 1) (rcA as1, hd, sl, os1)) cs := by
  obtain ⟨h1, h2, h3, h4, h5⟩ := h
  refine ⟨⟨h1.pend (Nat.le_refl _), by omega, h3, h4, fun pc p1 p2 p3 => ?_⟩, fun x hx => ⟨upI_ne (by omega), upI_ne (by omega), upI_ne (by omega), upI_ne (by omega), upS_ne (by omega)⟩⟩
  by_cases z : pc = cs
  · subst z
    rw [upS_ne (by omega)] at p3 ⊢
    rw [h1.2] at p3 ⊢
    refine ⟨h3, h4, hl, hd, upI_eq, Nat.le_refl _, h4, fun _ => rfl⟩
  · rw [upS_ne (by omega)] at p3 ⊢
    obtain ⟨a1, a2, a3, q, a4, a5, a6, a7⟩ := h5 pc p1 (by omega) p3
    refine ⟨a1, a2, a3, q, by rw [upI_ne (by omega)]; exact a4, a5, a6, fun w => a7 ?_⟩
    rw [upI_ne (by omega)] at w
    exact w
/-- jumps come to the place -/
theorem EmS.land {xs : List Nat} (h : EmS fi fdn fty X O L R H A pd m sn lo cs as hd sl os) (e : ¬ as = -1 → Go fi (1, hd, sl, os) (rcA as1, hd1, sl1, os1)) (hp : ∀ z : Nat, z ∈ xs → pd z) (hp1 : ∀ z : Nat, pd z → ¬ z ∈ xs → pd1 z) (hw : WfA (1, hd1, sl1, os1)) (hd9 : hd1 ≤ sn)
    (hx : ∀ z : Nat, z ∈ xs → lo ≤ z → z < cs → (A z).1 = 1 → ∃ k : Nat, k < 31 ∧ O z = nI k ∧ IRk fi fdn fty X SgT PfT (fun z9 => lo ≤ z9 ∧ z9 < cs ∧ O z9 = 0) z m sn cs (nI cs) (R z) (A z) (upS A cs (rcA as1, hd1, sl1, os1) (z + 1)) (upS A cs (rcA as1, hd1, sl1, os1)) k) :
    EmS fi fdn fty X O (aim L xs cs) R H (upS A cs (rcA as1, hd1, sl1, os1)) pd1 m sn lo cs as1 hd1 sl1 os1 := by
  obtain ⟨h1, h2, h3, h4, h5⟩ := h
  refine ⟨h1.land e hp hp1 hx, h2, hw, hd9, fun pc p1 p2 p3 => ?_⟩
  rw [upS_ne (by omega)] at p3 ⊢
  exact h5 pc p1 p2 p3
/-- what is assigned behind an E, and behind it as a truth: -1 where one doesn't come -/
def AsW (as wt wf : Int32) : Prop := as = -1 ↔ wt = -1 ∧ wf = -1
/-- the code u of an E's type r; a truth's code tells what it may be -/
def UTb (u : Nat) (r as wt wf : Int32) : Prop := (r = nI u ∧ ¬ u = 61 ∧ u < 128 ∧ wt = as ∧ wf = as) ∨ (r = 61 ∧ BoT u ∧ AsW as wt wf ∧ (¬ as = -1 → (maT u → ¬ wt = -1) ∧ (maF u → ¬ wf = -1)))
theorem and_m1 {x1 x2 : Int32} : x1 &&& x2 = -1 ↔ x1 = -1 ∧ x2 = -1 := by
  constructor
  · intro h
    have h1 : x1.toBitVec &&& x2.toBitVec = BitVec.allOnes 32 := by
      rw [← Int32.toBitVec_and, h]
      decide
    have e : ∀ z : Int32, z.toBitVec = BitVec.allOnes 32 → z = -1 := fun z hz => by
      rw [← Int32.toBitVec_inj, hz]
      decide
    refine ⟨e x1 ?_, e x2 ?_⟩
    · refine BitVec.eq_of_getLsbD_eq (fun j hj => ?_)
      have h2 := congrArg (fun q => BitVec.getLsbD q j) h1
      simp only [BitVec.getLsbD_and, BitVec.getLsbD_allOnes, hj, decide_true] at h2 ⊢
      exact (Bool.and_eq_true_iff.mp h2).1
    · refine BitVec.eq_of_getLsbD_eq (fun j hj => ?_)
      have h2 := congrArg (fun q => BitVec.getLsbD q j) h1
      simp only [BitVec.getLsbD_and, BitVec.getLsbD_allOnes, hj, decide_true] at h2 ⊢
      exact (Bool.and_eq_true_iff.mp h2).2
  · intro h
    rw [h.1, h.2]
    decide
theorem UTb.plain (h : r = nI u) (h61 : ¬ u = 61) (h2 : u < 128) : UTb u r as as as := Or.inl ⟨h, h61, h2, rfl, rfl⟩
theorem UTb.any (h2 : r = 61) : UTb 61 r as as as := Or.inr ⟨h2, Or.inl rfl, ⟨fun z => ⟨z, z⟩, fun z => z.1⟩, fun z => ⟨fun _ => z, fun _ => z⟩⟩
theorem UTb.bo (h : UTb u r as wt wf) (hr : r = 61) (hu : u < 200) : BoT u ∧ AsW as wt wf ∧ (¬ as = -1 → (maT u → ¬ wt = -1) ∧ (maF u → ¬ wf = -1)) := by
  rcases h with ⟨h1, h2, _⟩ | ⟨_, h2, h3, h4⟩
  · refine absurd ?_ h2
    exact (nI_eq (a := u) (b := 61) (by omega) (by omega)).mp (h1.symm.trans hr)
  · exact ⟨h2, h3, h4⟩
/-- a truth that is known -/
theorem UTb.true (h2 : r = 61) : UTb 161 r as as (-1) := Or.inr ⟨h2, bo161, ⟨fun z => ⟨z, rfl⟩, fun z => z.1⟩, fun z => ⟨fun _ => z, fun q => by unfold maF at q; omega⟩⟩
theorem UTb.false (h2 : r = 61) : UTb 162 r as (-1) as := Or.inr ⟨h2, bo162, ⟨fun z => ⟨rfl, z⟩, fun z => z.2⟩, fun z => ⟨fun q => by unfold maT at q; omega, fun _ => z⟩⟩
theorem flp_bo (h : BoT u) : BoT (flp u) ∧ (maT (flp u) → maF u) ∧ (maF (flp u) → maT u) := by
  unfold BoT at h
  rcases h with e | e | e | e | e <;> subst e <;> unfold flp BoT maT maF <;> simp
theorem UTb.turn (h : UTb u r as wt wf) (hr : r = 61) (hu : u < 200) : UTb (flp u) 61 as wf wt := by
  obtain ⟨h1, h2, h3⟩ := h.bo hr hu
  obtain ⟨f1, f2, f3⟩ := flp_bo h1
  exact Or.inr ⟨rfl, f1, ⟨fun z => ⟨(h2.mp z).2, (h2.mp z).1⟩, fun z => h2.mpr ⟨z.2, z.1⟩⟩, fun z => ⟨fun q => (h3 z).2 (f2 q), fun q => (h3 z).1 (f3 q)⟩⟩
theorem Go.bool (h : TL fi t u) (hz : ¬ as1 = -1) : Go fi (1, hd, sl, t :: os) (rcA as1, hd, sl, u :: os) := ⟨rcA_1 hz, Nat.le_refl _, fun _ _ => Eq.refl _, h, OL.rfl⟩
/-- the code of a truth, by where it is assigned -/
def bcw (wt wf : Int32) : Nat := bcd (if wt = -1 then 0 else 1) (if wf = -1 then 0 else 1)
theorem bcw_bo : BoT (bcw wt wf) := bcd_bo (by split <;> omega) (by split <;> omega)
theorem bcw_t (h : maT (bcw wt wf)) : ¬ wt = -1 := fun e => by
  have z := bcd_t (by split <;> omega) (by split <;> omega) h
  rw [if_pos e] at z
  exact absurd z (by decide)
theorem bcw_f (h : maF (bcw wt wf)) : ¬ wf = -1 := fun e => by
  have z := bcd_f (by split <;> omega) (by split <;> omega) h
  rw [if_pos e] at z
  exact absurd z (by decide)
theorem TL.bcw (hb : BoT u) (h1 : maT u → ¬ wt = -1) (h2 : maF u → ¬ wf = -1) : TL fi u (bcw wt wf) := TL.bcd hb (by split <;> omega) (by split <;> omega) (fun q => if_neg (h1 q)) (fun q => if_neg (h2 q))
theorem UTb.bcw (h : AsW as wt wf) : UTb (bcw wt wf) 61 as wt wf := Or.inr ⟨rfl, bcw_bo, h, fun _ => ⟨fun q => bcw_t q, fun q => bcw_f q⟩⟩
theorem bcw_lt : bcw wt wf < 200 := by
  unfold bcw bcd
  split <;> split <;> omega
/-- and: the jump stands at j, its left truth has the code u -/
theorem EmS.both {j : Nat} {lt wt3 wf3 as3 : Int32} (h : EmS fi fdn fty X O L R H A (fun z => pd z ∨ z = j) m sn lo cs as1 hd sl (u2 :: os)) (hj : lo ≤ j ∧ j + 1 < cs) (hO : O j = nI 8) (hA : A j = (rcA as, hd, sl, u :: os)) (hA1 : A (j + 1) = (rcA lt, hd, sl, os)) (hb : BoT u) (hb2 : BoT u2) (h1 : ¬ as = -1 → maT u → ¬ lt = -1) (h2 : ¬ as = -1 → maF u → ¬ wf3 = -1) (h3 : ¬ as1 = -1 → maT u2 → ¬ wt3 = -1) (h4 : ¬ as1 = -1 → maF u2 → ¬ wf3 = -1) (h5 : ¬ as1 = -1 → ¬ as3 = -1) (h6 : ¬ wf3 = -1 → ¬ as3 = -1) :
    EmS fi fdn fty X O (aim L [j] cs) R H (upS A cs (rcA as3, hd, sl, bcw wt3 wf3 :: os)) pd m sn lo cs as3 hd sl (bcw wt3 wf3 :: os) := by
  have hw := h.2.2.1
  have hs := h.2.2.2.1
  refine h.land (fun z => Go.bool (TL.bcw hb2 (h3 z) (h4 z)) (h5 z)) (fun z hz => Or.inr (List.mem_singleton.mp hz)) (fun z hz hn => hz.resolve_right (fun q => hn (List.mem_singleton.mpr q))) hw hs (fun z hz z1 z2 z3 => ?_)
  have ez := List.mem_singleton.mp hz
  subst ez
  rw [hA] at z3 ⊢
  have ha : ¬ as = -1 := rcA_of z3
  rw [upS_ne (by omega), hA1, show rcA as = 1 from rcA_1 ha]
  refine ⟨8, by omega, hO, cs, u, os, rfl, Nat.le_refl _, by omega, rfl, hb, fun q => go1 (h1 ha q), fun q => ?_⟩
  rw [upS_eq]
  exact Go.bool (TL.bcw bo162 (fun q2 => by unfold maT at q2; omega) (fun _ => h2 ha q)) (h6 (h2 ha q))
/-- or -/
theorem EmS.either {j : Nat} {lf wt3 wf3 as3 : Int32} (h : EmS fi fdn fty X O L R H A (fun z => pd z ∨ z = j) m sn lo cs as1 hd sl (u2 :: os)) (hj : lo ≤ j ∧ j + 1 < cs) (hO : O j = nI 9) (hA : A j = (rcA as, hd, sl, u :: os)) (hA1 : A (j + 1) = (rcA lf, hd, sl, os)) (hb : BoT u) (hb2 : BoT u2) (h1 : ¬ as = -1 → maF u → ¬ lf = -1) (h2 : ¬ as = -1 → maT u → ¬ wt3 = -1) (h3 : ¬ as1 = -1 → maT u2 → ¬ wt3 = -1) (h4 : ¬ as1 = -1 → maF u2 → ¬ wf3 = -1) (h5 : ¬ as1 = -1 → ¬ as3 = -1) (h6 : ¬ wt3 = -1 → ¬ as3 = -1) :
    EmS fi fdn fty X O (aim L [j] cs) R H (upS A cs (rcA as3, hd, sl, bcw wt3 wf3 :: os)) pd m sn lo cs as3 hd sl (bcw wt3 wf3 :: os) := by
  have hw := h.2.2.1
  have hs := h.2.2.2.1
  refine h.land (fun z => Go.bool (TL.bcw hb2 (h3 z) (h4 z)) (h5 z)) (fun z hz => Or.inr (List.mem_singleton.mp hz)) (fun z hz hn => hz.resolve_right (fun q => hn (List.mem_singleton.mpr q))) hw hs (fun z hz z1 z2 z3 => ?_)
  have ez := List.mem_singleton.mp hz
  subst ez
  rw [hA] at z3 ⊢
  have ha : ¬ as = -1 := rcA_of z3
  rw [upS_ne (by omega), hA1, show rcA as = 1 from rcA_1 ha]
  refine ⟨9, by omega, hO, cs, u, os, rfl, Nat.le_refl _, by omega, rfl, hb, fun q => go1 (h1 ha q), fun q => ?_⟩
  rw [upS_eq]
  exact Go.bool (TL.bcw bo161 (fun _ => h2 ha q) (fun q2 => by unfold maF at q2; omega)) (h6 (h2 ha q))
/-- a choice: the jump that skips stands at j, the one behind the first E at e; both are to be aimed -/
theorem EmS.skip {j : Nat} {wf0 as3 : Int32} (h : EmS fi fdn fty X O L R H A (fun z => pd1 z ∨ z = j) m sn lo cs as1 hd sl os1) (hd1 : as1 = -1) (hj : lo ≤ j ∧ j + 1 < cs) (hO : O j = nI 7) (hA : A j = (rcA as, hd, sl, u :: os)) (hA1 : A (j + 1) = (rcA wt, hd, sl, os)) (hb : BoT u) (h1 : ¬ as = -1 → maT u → ¬ wt = -1) (h2 : ¬ as = -1 → maF u → ¬ wf0 = -1) :
    EmS fi fdn fty X O (aim L [j] cs) R H (upS A cs (rcA wf0, hd, sl, os)) pd1 m sn lo cs wf0 hd sl os := by
  have hw := h.2.2.1
  have hs := h.2.2.2.1
  refine h.land (fun z => absurd hd1 z) (fun z hz => Or.inr (List.mem_singleton.mp hz)) (fun z hz hn => hz.resolve_right (fun q => hn (List.mem_singleton.mpr q))) hw hs (fun z hz z1 z2 z3 => ?_)
  have ez := List.mem_singleton.mp hz
  subst ez
  rw [hA] at z3 ⊢
  have ha : ¬ as = -1 := rcA_of z3
  rw [upS_ne (by omega), hA1, show rcA as = 1 from rcA_1 ha]
  refine ⟨7, by omega, hO, cs, u, os, rfl, Nat.le_refl _, by omega, rfl, hb, fun q => go1 (h1 ha q), fun q => ?_⟩
  rw [upS_eq]
  exact go1 (h2 ha q)
/-- a plain jump comes to the place -/
theorem EmS.join {j : Nat} {as3 : Int32} (h : EmS fi fdn fty X O L R H A (fun z => pd z ∨ z = j) m sn lo cs as1 hd sl os1) (hj : lo ≤ j ∧ j + 1 ≤ cs) (hO : O j = nI 6) (hA : A j = (rcA as, hd, sl, os)) {os3 : List Nat} (g1 : ¬ as = -1 → Go fi (1, hd, sl, os) (rcA as3, hd, sl, os3)) (g2 : ¬ as1 = -1 → Go fi (1, hd, sl, os1) (rcA as3, hd, sl, os3)) :
    EmS fi fdn fty X O (aim L [j] cs) R H (upS A cs (rcA as3, hd, sl, os3)) pd m sn lo cs as3 hd sl os3 := by
  have hw := h.2.2.1
  have hs := h.2.2.2.1
  refine h.land g2 (fun z hz => Or.inr (List.mem_singleton.mp hz)) (fun z hz hn => hz.resolve_right (fun q => hn (List.mem_singleton.mpr q))) hw hs (fun z hz z1 z2 z3 => ?_)
  have ez := List.mem_singleton.mp hz
  subst ez
  rw [hA] at z3 ⊢
  have ha : ¬ as = -1 := rcA_of z3
  rw [show rcA as = 1 from rcA_1 ha]
  refine ⟨6, by omega, hO, cs, rfl, Nat.le_refl _, ?_, Or.inl (by omega)⟩
  rw [upS_eq]
  exact g1 ha
end ZC

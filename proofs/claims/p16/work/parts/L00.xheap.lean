/-! values of the class's machine, its typed heap, and what collecting leaves of it: all pure -/
def nmV (x : Int32) : Int64 := x.toInt64 &&& 4294967295
def rfV (p : Nat) : Int64 := 4294967296 ||| (nI p).toInt64
def hdV (n d : Nat) : Int64 := ((nI n).toInt64 <<< 8) ||| (nI d).toInt64
def fwV (y : Nat) : Int64 := (-(nI y)).toInt64
theorem nmV_and {x : Int32} : nmV x &&& 4294967296 = 0 := by
  rw [← Int64.toBitVec_inj]
  unfold nmV
  rw [Int64.toBitVec_and, Int64.toBitVec_and, BitVec.and_assoc]
  have e : (4294967295 : Int64).toBitVec &&& (4294967296 : Int64).toBitVec = 0#64 := by decide
  rw [e, BitVec.and_zero]
  rfl
theorem rfV_and {p : Nat} : ¬ rfV p &&& 4294967296 = 0 := fun h => by
  rw [← Int64.toBitVec_inj] at h
  unfold rfV at h
  rw [Int64.toBitVec_and, Int64.toBitVec_or] at h
  have h2 := congrArg (fun z => BitVec.getLsbD z 32) h
  simp only [BitVec.getLsbD_and, BitVec.getLsbD_or] at h2
  have e1 : (4294967296 : Int64).toBitVec.getLsbD 32 = true := by decide
  have e2 : (0 : Int64).toBitVec.getLsbD 32 = false := by decide
  rw [e1, e2] at h2
  simp at h2
theorem rfV_ne {p : Nat} {x : Int32} : ¬ rfV p = nmV x := fun h => rfV_and (by rw [h]; exact nmV_and)
theorem nmV_int {x : Int32} : (nmV x).toInt32 = x := by
  rw [← Int32.toBitVec_inj]
  unfold nmV
  rw [Int64.toBitVec_toInt32, Int64.toBitVec_and, Int32.toBitVec_toInt64]
  refine BitVec.eq_of_getLsbD_eq (fun i hi => ?_)
  have e : ∀ j : Nat, j < 32 → (4294967295 : Int64).toBitVec.getLsbD j = true := by decide
  have h64 : i < 64 := by omega
  simp only [BitVec.getLsbD_signExtend, BitVec.getLsbD_and, e i hi]
  simp only [hi, h64, decide_true, ↓reduceIte, Bool.true_and, Bool.and_true]
theorem nmV_0 : nmV 0 = 0 := by decide
theorem nmV_1 : nmV 1 = 1 := by decide
theorem rfV_n0 {p : Nat} : ¬ rfV p = 0 := fun h => rfV_ne (x := 0) (by rw [h, nmV_0])
theorem rfV_int {p : Nat} : (rfV p).toInt32 = nI p := by
  rw [← Int32.toBitVec_inj]
  unfold rfV
  rw [Int64.toBitVec_toInt32, Int64.toBitVec_or, Int32.toBitVec_toInt64]
  refine BitVec.eq_of_getLsbD_eq (fun i hi => ?_)
  have e : ∀ j : Nat, j < 32 → (4294967296 : Int64).toBitVec.getLsbD j = false := by decide
  have h64 : i < 64 := by omega
  simp only [BitVec.getLsbD_signExtend, BitVec.getLsbD_or, e i hi]
  simp only [hi, h64, decide_true, ↓reduceIte, Bool.true_and, Bool.false_or]
theorem rfV_inj {p q : Nat} (hp : p < 3008) (hq : q < 3008) (h : rfV p = rfV q) : p = q := by
  have h2 := congrArg Int64.toInt32 h
  rw [rfV_int, rfV_int] at h2
  exact (nI_eq (by omega) (by omega)).mp h2
def RfT (t : Nat) : Prop := t < 60 ∨ t = 62 ∨ (64 ≤ t ∧ t < 128)
/-- v is of type t, where S p is 1 and the type of what begins at p; booleans that are known: 161, 162 -/
def VT (fi : Nat → Nat → Prop) (S : Nat → Nat) (t : Nat) (v : Int64) : Prop :=
  (t = 60 ∧ ∃ x : Int32, v = nmV x) ∨ ((t = 61 ∨ t = 163) ∧ (v = 0 ∨ v = 1)) ∨ (t = 161 ∧ v = 1) ∨ (t = 162 ∧ v = 0) ∨
    (RfT t ∧ (v = 0 ∨ ∃ p d : Nat, p < 3008 ∧ v = rfV p ∧ S p = d + 1 ∧ fi d t))
/-- v is a value -/
def VO (S : Nat → Nat) (v : Int64) : Prop := (∃ x : Int32, v = nmV x) ∨ ∃ p d : Nat, p < 3008 ∧ v = rfV p ∧ S p = d + 1
/-- what a value becomes when the things have moved -/
def MV (ph : Nat → Nat) (v v1 : Int64) : Prop := ((∃ x : Int32, v = nmV x) ∧ v1 = v) ∨ (∃ p : Nat, p < 8 ∧ v = rfV p ∧ v1 = v) ∨
  ∃ p : Nat, 8 ≤ p ∧ p < 3008 ∧ v = rfV p ∧ ¬ ph p = 0 ∧ v1 = rfV (ph p)
def SM (S S1 ph : Nat → Nat) : Prop := (∀ p : Nat, p < 8 → S1 p = S p) ∧ ∀ p : Nat, ¬ ph p = 0 → S1 (ph p) = S p ∧ ph p < 3008
section XH
variable {fi : Nat → Nat → Prop} {S S1 ph ph1 nn fdn : Nat → Nat} {fty : Nat → Nat → Nat} {t p d n o c hp : Nat} {v v1 : Int64} {sp sp0 ot ot1 : Nat → Int64}
theorem VT.ok (h : VT fi S t v) : VO S v := by
  rcases h with ⟨_, x, e⟩ | ⟨_, e | e⟩ | ⟨_, e⟩ | ⟨_, e⟩ | ⟨_, e | ⟨p, d, h1, h2, h3, _⟩⟩
  · exact Or.inl ⟨x, e⟩
  · exact Or.inl ⟨0, by rw [e, nmV_0]⟩
  · exact Or.inl ⟨1, by rw [e, nmV_1]⟩
  · exact Or.inl ⟨1, by rw [e, nmV_1]⟩
  · exact Or.inl ⟨0, by rw [e, nmV_0]⟩
  · exact Or.inl ⟨0, by rw [e, nmV_0]⟩
  · exact Or.inr ⟨p, d, h1, h2, h3⟩
theorem VT.zero (h : t = 60 ∨ t = 61 ∨ RfT t) : VT fi S t 0 := by
  rcases h with h | h | h
  · exact Or.inl ⟨h, 0, nmV_0.symm⟩
  · exact Or.inr (Or.inl ⟨Or.inl h, Or.inl rfl⟩)
  · exact Or.inr (Or.inr (Or.inr (Or.inr ⟨h, Or.inl rfl⟩)))
theorem VT.mono (h : VT fi S t v) (hs : ∀ p d : Nat, S p = d + 1 → S1 p = d + 1) : VT fi S1 t v := by
  rcases h with h | h | h | h | ⟨h0, h | ⟨p, d, h1, h2, h3, h4⟩⟩
  · exact Or.inl h
  · exact Or.inr (Or.inl h)
  · exact Or.inr (Or.inr (Or.inl h))
  · exact Or.inr (Or.inr (Or.inr (Or.inl h)))
  · exact Or.inr (Or.inr (Or.inr (Or.inr ⟨h0, Or.inl h⟩)))
  · exact Or.inr (Or.inr (Or.inr (Or.inr ⟨h0, Or.inr ⟨p, d, h1, h2, hs p d h3, h4⟩⟩)))
theorem MV.num {x : Int32} (h : MV ph v v1) (e : v = nmV x) : v1 = v := by
  rcases h with ⟨_, h⟩ | ⟨p, _, h, _⟩ | ⟨p, _, _, h, _⟩
  · exact h
  · exact absurd (h.symm.trans e) rfV_ne
  · exact absurd (h.symm.trans e) rfV_ne
theorem MV.ref (h : MV ph v v1) (hp9 : p < 3008) (e : v = rfV p) : (p < 8 ∧ v1 = v) ∨ (8 ≤ p ∧ ¬ ph p = 0 ∧ v1 = rfV (ph p)) := by
  rcases h with ⟨⟨x, h⟩, _⟩ | ⟨q, h1, h2, h3⟩ | ⟨q, h1, h2, h3, h4⟩
  · exact absurd (e.symm.trans h) rfV_ne
  · have z := rfV_inj hp9 (by omega) (e.symm.trans h2)
    subst z
    exact Or.inl ⟨h1, h3⟩
  · have z := rfV_inj hp9 h2 (e.symm.trans h3)
    subst z
    exact Or.inr ⟨h1, h4⟩
theorem MV.grow (h : MV ph v v1) (hg : ∀ q : Nat, ¬ ph q = 0 → ph1 q = ph q) : MV ph1 v v1 := by
  rcases h with h | h | ⟨q, h1, h2, h3, h4⟩
  · exact Or.inl h
  · exact Or.inr (Or.inl h)
  · obtain ⟨w1, w2⟩ := h4
    exact Or.inr (Or.inr ⟨q, h1, h2, h3, by rw [hg q w1]; exact w1, by rw [hg q w1]; exact w2⟩)
theorem VT.move (h : VT fi S t v) (hm : MV ph v v1) (hs : SM S S1 ph) : VT fi S1 t v1 := by
  rcases h with ⟨h1, x, e⟩ | ⟨h1, e⟩ | ⟨h1, e⟩ | ⟨h1, e⟩ | ⟨h0, e | ⟨p, d, h1, h2, h3, h4⟩⟩
  · rw [hm.num e]; exact Or.inl ⟨h1, x, e⟩
  · have z : v1 = v := by
      rcases e with e | e
      · exact hm.num (x := 0) (by rw [e, nmV_0])
      · exact hm.num (x := 1) (by rw [e, nmV_1])
    rw [z]; exact Or.inr (Or.inl ⟨h1, e⟩)
  · rw [hm.num (x := 1) (by rw [e, nmV_1])]; exact Or.inr (Or.inr (Or.inl ⟨h1, e⟩))
  · rw [hm.num (x := 0) (by rw [e, nmV_0])]; exact Or.inr (Or.inr (Or.inr (Or.inl ⟨h1, e⟩)))
  · rw [hm.num (x := 0) (by rw [e, nmV_0])]; exact Or.inr (Or.inr (Or.inr (Or.inr ⟨h0, Or.inl e⟩)))
  · refine Or.inr (Or.inr (Or.inr (Or.inr ⟨h0, ?_⟩)))
    rcases hm.ref h1 h2 with ⟨w1, w2⟩ | ⟨w1, w2, w3⟩
    · exact Or.inr ⟨p, d, h1, w2.trans h2, (hs.1 p w1).trans h3, h4⟩
    · exact Or.inr ⟨ph p, d, (hs.2 p w2).2, w3, ((hs.2 p w2).1).trans h3, h4⟩
theorem VO.move (h : VO S v) (hm : MV ph v v1) (hs : SM S S1 ph) : VO S1 v1 := by
  rcases h with ⟨x, e⟩ | ⟨p, d, h1, h2, h3⟩
  · exact Or.inl ⟨x, (hm.num e).trans e⟩
  · rcases hm.ref h1 h2 with ⟨w1, w2⟩ | ⟨w1, w2, w3⟩
    · exact Or.inr ⟨p, d, h1, w2.trans h2, (hs.1 p w1).trans h3⟩
    · exact Or.inr ⟨ph p, d, (hs.2 p w2).2, w3, ((hs.2 p w2).1).trans h3⟩
end XH
/-- a thing's cells: the fields of a class's object, the elements of an array -/
def ThO (fi : Nat → Nat → Prop) (fdn : Nat → Nat) (fty : Nat → Nat → Nat) (S : Nat → Nat) (sp : Nat → Int64) (p n d : Nat) : Prop :=
  (d < 60 ∧ n = 1 + fdn d ∧ ∀ i : Nat, i < fdn d → VT fi S (fty d i) (sp (p + 1 + i))) ∨
    (64 ≤ d ∧ d < 128 ∧ 2 ≤ n ∧ sp (p + 1) = 0 ∧ ∀ i : Nat, i + 2 < n → VT fi S (d - 64) (sp (p + 2 + i)))
/-- the typed heap: things side by side below hp; S p: 1 and the type of what begins at p; nn p: its cells -/
def HT (fi : Nat → Nat → Prop) (fdn : Nat → Nat) (fty : Nat → Nat → Nat) (S nn : Nat → Nat) (sp : Nat → Int64) (hp : Nat) : Prop :=
  (8 ≤ hp ∧ hp ≤ 3008) ∧ (∀ p : Nat, p < 7 → sp p = hdV 1 p) ∧ (∀ p d : Nat, S p = d + 1 → p < 8 → 1 ≤ p ∧ p < 7 ∧ d = p) ∧
    ∀ p d : Nat, S p = d + 1 → 8 ≤ p → 1 ≤ nn p ∧ p + nn p ≤ hp ∧ sp p = hdV (nn p) d ∧ ThO fi fdn fty S sp p (nn p) d ∧
      ∀ q : Nat, ¬ S q = 0 → p < q → p + nn p ≤ q
/-- collecting: ph p is where the thing at p has moved to (0: not yet); the cells of the other space below c are as they will be -/
def GI (S nn : Nat → Nat) (sp0 sp ot : Nat → Int64) (o c : Nat) (ph : Nat → Nat) : Prop :=
  (8 ≤ o ∧ o ≤ 3008) ∧ (∀ q : Nat, ph q = 0 → sp q = sp0 q) ∧
  (∀ q : Nat, ¬ ph q = 0 → ¬ S q = 0 ∧ 8 ≤ q ∧ sp q = fwV (ph q) ∧ 8 ≤ ph q ∧ ph q + nn q ≤ o ∧ 1 ≤ nn q ∧
    ∀ i : Nat, i < nn q → (ph q + i < c → MV ph (sp0 (q + i)) (ot (ph q + i))) ∧ (c ≤ ph q + i → ot (ph q + i) = sp0 (q + i))) ∧
  (∀ q r : Nat, ¬ ph q = 0 → ¬ ph r = 0 → ph q < ph r → ph q + nn q ≤ ph r) ∧ (∀ q r : Nat, ¬ ph q = 0 → ph q = ph r → q = r) ∧
  (∀ x : Nat, 8 ≤ x → x < o → ∃ q : Nat, ¬ ph q = 0 ∧ ph q ≤ x ∧ x < ph q + nn q) ∧ ∀ p : Nat, p < 8 → ot p = sp0 p
def upV (f : Nat → Int64) (k : Nat) (v : Int64) : Nat → Int64 := fun i => if i = k then v else f i
def upM (f : Nat → Nat) (k v : Nat) : Nat → Nat := fun i => if i = k then v else f i
section XG
variable {fi : Nat → Nat → Prop} {S S1 ph ph1 nn fdn : Nat → Nat} {fty : Nat → Nat → Nat} {t p q d n o c hp i k : Nat} {v v1 : Int64} {sp sp0 ot ot1 f : Nat → Int64} {fn : Nat → Nat}
theorem upV_eq : upV f k v k = v := if_pos rfl
theorem upV_ne (h : ¬ i = k) : upV f k v i = f i := if_neg h
theorem upM_eq : upM fn k n k = n := if_pos rfl
theorem upM_ne (h : ¬ i = k) : upM fn k n i = fn i := if_neg h
theorem HT.in0 (h : HT fi fdn fty S nn sp hp) (hS : S p = d + 1) (hp8 : 8 ≤ p) (hi : 1 ≤ i) (hn : i < nn p) : S (p + i) = 0 := by
  refine Classical.byContradiction fun z => ?_
  have w := (h.2.2.2 p d hS hp8).2.2.2.2 (p + i) z (by omega)
  omega
theorem GI.start (h : HT fi fdn fty S nn sp hp) (h0 : ∀ p : Nat, p < 8 → ot p = sp p) : GI S nn sp sp ot 8 8 (fun _ => 0) :=
  ⟨⟨by omega, by omega⟩, fun _ _ => rfl, fun q z => absurd rfl z, fun q r z => absurd rfl z, fun q r z => absurd rfl z, fun x h1 h2 => by omega, h0⟩
/-- a thing moves -/
theorem GI.copy (g : GI S nn sp0 sp ot o c ph) (h : HT fi fdn fty S nn sp0 hp) (hS : S p = d + 1) (hp8 : 8 ≤ p) (h0 : ph p = 0) (hr : o + nn p ≤ 3008) (hc : c ≤ o)
    (h1 : ∀ i : Nat, i < nn p → ot1 (o + i) = sp (p + i)) (h2 : ∀ x : Nat, x < o → ot1 x = ot x) : GI S nn sp0 (upV sp p (fwV o)) ot1 (o + nn p) c (upM ph p o) := by
  obtain ⟨g1, g2, g3, g4, g5, g6, g7⟩ := g
  obtain ⟨k1, k2, k3, k4, k5⟩ := h.2.2.2 p d hS hp8
  have gr : ∀ q : Nat, ¬ ph q = 0 → upM ph p o q = ph q := fun q hq => upM_ne (fun z => hq (by rw [z]; exact h0))
  have cs : ∀ q : Nat, ¬ upM ph p o q = 0 → (q = p ∧ upM ph p o q = o) ∨ (¬ q = p ∧ ¬ ph q = 0 ∧ upM ph p o q = ph q) := fun q hq => by
    by_cases z : q = p
    · subst z; exact Or.inl ⟨rfl, upM_eq⟩
    · rw [upM_ne z] at hq ⊢; exact Or.inr ⟨z, hq, rfl⟩
  have raw : ∀ i : Nat, i < nn p → sp (p + i) = sp0 (p + i) := fun i hi => by
    by_cases z : i = 0
    · subst z; exact g2 p h0
    · refine g2 _ (Classical.byContradiction fun w => ?_)
      exact (g3 _ w).1 (h.in0 hS hp8 (by omega) hi)
  refine ⟨⟨by omega, hr⟩, fun q hq => ?_, fun q hq => ?_, fun q r hq hr9 hl => ?_, fun q r hq he => ?_, fun x hx1 hx2 => ?_, fun x hx => (h2 x (by omega)).trans (g7 x hx)⟩
  · by_cases z : q = p
    · subst z; rw [upM_eq] at hq; omega
    · rw [upM_ne z] at hq
      rw [upV_ne z]; exact g2 q hq
  · rcases cs q hq with ⟨e1, e2⟩ | ⟨e1, e2, e3⟩
    · subst e1
      rw [e2]
      refine ⟨by rw [hS]; omega, hp8, upV_eq, by omega, by omega, k1, fun i hi => ⟨fun z => by omega, fun _ => ?_⟩⟩
      exact (h1 i hi).trans (raw i hi)
    · obtain ⟨a1, a2, a3, a4, a5, a6, a7⟩ := g3 q e2
      rw [e3]
      refine ⟨a1, a2, (upV_ne e1).trans a3, a4, by omega, a6, fun i hi => ?_⟩
      rw [h2 (ph q + i) (by omega)]
      exact ⟨fun z => ((a7 i hi).1 z).grow gr, (a7 i hi).2⟩
  · rcases cs q hq with ⟨e1, e2⟩ | ⟨e1, e2, e3⟩ <;> rcases cs r hr9 with ⟨f1, f2⟩ | ⟨f1, f2, f3⟩
    · omega
    · have := (g3 r f2).2.2.2.2
      omega
    · have := (g3 q e2).2.2.2.2
      omega
    · rw [e3, f3] at hl
      have := g4 q r e2 f2 hl
      omega
  · have hr9 : ¬ upM ph p o r = 0 := by rw [← he]; exact hq
    rcases cs q hq with ⟨e1, e2⟩ | ⟨e1, e2, e3⟩ <;> rcases cs r hr9 with ⟨f1, f2⟩ | ⟨f1, f2, f3⟩
    · exact e1.trans f1.symm
    · have := (g3 r f2).2.2.2.2
      omega
    · have := (g3 q e2).2.2.2.2
      omega
    · exact g5 q r e2 (by omega)
  · by_cases z : x < o
    · obtain ⟨q, q1, q2, q3⟩ := g6 x hx1 z
      exact ⟨q, by rw [gr q q1]; exact q1, by rw [gr q q1]; exact q2, by rw [gr q q1]; exact q3⟩
    · exact ⟨p, by rw [upM_eq]; omega, by rw [upM_eq]; omega, by rw [upM_eq]; omega⟩
/-- what stands in the cell that comes next -/
theorem GI.cell (g : GI S nn sp0 sp ot o c ph) (h8 : 8 ≤ c) (hc : c < o) : ∃ q i : Nat, ¬ ph q = 0 ∧ i < nn q ∧ c = ph q + i ∧ ot c = sp0 (q + i) := by
  obtain ⟨q, q1, q2, q3⟩ := g.2.2.2.2.2.1 c h8 hc
  refine ⟨q, c - ph q, q1, by omega, by omega, ?_⟩
  have z := ((g.2.2.1 q q1).2.2.2.2.2.2 (c - ph q) (by omega)).2 (by omega)
  rw [show ph q + (c - ph q) = c by omega] at z
  exact z
theorem GI.scan (g : GI S nn sp0 sp ot o c ph) (h8 : 8 ≤ c) (hc : c < o) (hm : MV ph (ot c) v1) : GI S nn sp0 sp (upV ot c v1) o (c + 1) ph := by
  obtain ⟨q0, i0, b1, b2, b3, b4⟩ := g.cell h8 hc
  obtain ⟨g1, g2, g3, g4, g5, g6, g7⟩ := g
  refine ⟨g1, g2, fun q hq => ?_, g4, g5, g6, fun p hp9 => (upV_ne (by omega)).trans (g7 p hp9)⟩
  obtain ⟨a1, a2, a3, a4, a5, a6, a7⟩ := g3 q hq
  refine ⟨a1, a2, a3, a4, a5, a6, fun i hi => ?_⟩
  by_cases z : ph q + i = c
  · have e : q = q0 := by
      refine Classical.byContradiction fun w => ?_
      have n1 : ¬ ph q = ph q0 := fun y => w (g5 q q0 hq y)
      by_cases y : ph q < ph q0
      · have := g4 q q0 hq b1 y
        omega
      · have := g4 q0 q b1 hq (by omega)
        omega
    subst e
    have e2 : i = i0 := by omega
    subst e2
    rw [z, upV_eq]
    exact ⟨fun _ => by rw [← b4]; exact hm, fun w => by omega⟩
  · rw [upV_ne z]
    exact ⟨fun w => (a7 i hi).1 (by omega), fun w => (a7 i hi).2 (by omega)⟩
end XG
/-- the types and the cells of what has moved -/
noncomputable def S9 (S ph : Nat → Nat) (y : Nat) : Nat := if y < 8 then S y else @dite Nat (∃ q : Nat, ¬ ph q = 0 ∧ ph q = y) (Classical.propDecidable _) (fun h => S (Classical.choose h)) (fun _ => 0)
noncomputable def N9 (nn ph : Nat → Nat) (y : Nat) : Nat := @dite Nat (∃ q : Nat, ¬ ph q = 0 ∧ ph q = y) (Classical.propDecidable _) (fun h => nn (Classical.choose h)) (fun _ => 0)
section XE
variable {fi : Nat → Nat → Prop} {S S1 ph ph1 nn fdn : Nat → Nat} {fty : Nat → Nat → Nat} {t p q d n o c hp i k : Nat} {v v1 : Int64} {sp sp0 ot ot1 f : Nat → Int64} {fn : Nat → Nat}
theorem S9_at (g5 : ∀ q r : Nat, ¬ ph q = 0 → ph q = ph r → q = r) (hq : ¬ ph q = 0) (h8 : 8 ≤ ph q) : S9 S ph (ph q) = S q := by
  unfold S9
  rw [if_neg (by omega)]
  have hx : ∃ r : Nat, ¬ ph r = 0 ∧ ph r = ph q := ⟨q, hq, rfl⟩
  rw [dif_pos hx]
  have z := Classical.choose_spec hx
  rw [g5 _ _ z.1 z.2]
theorem N9_at (g5 : ∀ q r : Nat, ¬ ph q = 0 → ph q = ph r → q = r) (hq : ¬ ph q = 0) : N9 nn ph (ph q) = nn q := by
  unfold N9
  have hx : ∃ r : Nat, ¬ ph r = 0 ∧ ph r = ph q := ⟨q, hq, rfl⟩
  rw [dif_pos hx]
  have z := Classical.choose_spec hx
  rw [g5 _ _ z.1 z.2]
theorem S9_of {y : Nat} (h : ¬ S9 S ph y = 0) (h8 : 8 ≤ y) : ∃ q : Nat, ¬ ph q = 0 ∧ ph q = y := by
  refine Classical.byContradiction fun z => h ?_
  unfold S9
  rw [if_neg (by omega), dif_neg z]
theorem GI.sm (g : GI S nn sp0 sp ot o c ph) : SM S (S9 S ph) ph := by
  obtain ⟨g1, g2, g3, g4, g5, g6, g7⟩ := g
  refine ⟨fun p hp9 => by unfold S9; rw [if_pos hp9], fun p hp9 => ?_⟩
  obtain ⟨a1, a2, a3, a4, a5, a6, a7⟩ := g3 p hp9
  exact ⟨S9_at g5 hp9 a4, by omega⟩
/-- all has moved: the other space is a typed heap -/
theorem GI.all (g : GI S nn sp0 sp ot o o ph) (h : HT fi fdn fty S nn sp0 hp) (hh : ∀ n d : Nat, n ≤ 3008 → d < 128 → ∃ x : Int32, hdV n d = nmV x) : HT fi fdn fty (S9 S ph) (N9 nn ph) ot o := by
  have hs := g.sm
  obtain ⟨g1, g2, g3, g4, g5, g6, g7⟩ := g
  refine ⟨g1, fun p hp9 => (g7 p (by omega)).trans (h.2.1 p hp9), fun p d hS hp9 => ?_, fun y d hS hy => ?_⟩
  · rw [hs.1 p hp9] at hS
    exact h.2.2.1 p d hS hp9
  · obtain ⟨q, q1, q2⟩ := S9_of (by rw [hS]; omega) hy
    subst q2
    obtain ⟨a1, a2, a3, a4, a5, a6, a7⟩ := g3 q q1
    rw [S9_at g5 q1 a4] at hS
    rw [N9_at g5 q1]
    obtain ⟨k1, k2, k3, k4, k5⟩ := h.2.2.2 q d hS a2
    have mv : ∀ i : Nat, i < nn q → MV ph (sp0 (q + i)) (ot (ph q + i)) := fun i hi => (a7 i hi).1 (by omega)
    have hd9 : d < 128 := by
      rcases k4 with w | w
      · omega
      · omega
    refine ⟨k1, a5, ?_, ?_, fun r hr hl => ?_⟩
    · obtain ⟨x, hx⟩ := hh (nn q) d (by omega) hd9
      have z := mv 0 (by omega)
      rw [show q + 0 = q from rfl, show ph q + 0 = ph q from rfl] at z
      exact (z.num (k3.trans hx)).trans k3
    · rcases k4 with ⟨w1, w2, w3⟩ | ⟨w1, w2, w3, w4, w5⟩
      · refine Or.inl ⟨w1, w2, fun i hi => ?_⟩
        have z := mv (1 + i) (by omega)
        rw [show q + (1 + i) = q + 1 + i by omega, show ph q + (1 + i) = ph q + 1 + i by omega] at z
        exact (w3 i hi).move z hs
      · refine Or.inr ⟨w1, w2, w3, ?_, fun i hi => ?_⟩
        · exact ((mv 1 (by omega)).num (x := 0) (by rw [w4, nmV_0])).trans w4
        · have z := mv (2 + i) (by omega)
          rw [show q + (2 + i) = q + 2 + i by omega, show ph q + (2 + i) = ph q + 2 + i by omega] at z
          exact (w5 i hi).move z hs
    · by_cases h8 : 8 ≤ r
      · obtain ⟨r9, r1, r2⟩ := S9_of hr h8
        subst r2
        exact g4 q r9 q1 r1 hl
      · omega
/-- a new thing -/
theorem HT.made (h : HT fi fdn fty S nn sp hp) (hd : d < 60 ∧ n = 1 + fdn d ∧ (∀ i : Nat, i < fdn d → fty d i = 60 ∨ fty d i = 61 ∨ RfT (fty d i)) ∨ 64 ≤ d ∧ d < 128 ∧ 2 ≤ n ∧ (d - 64 = 60 ∨ d - 64 = 61 ∨ RfT (d - 64)))
    (h1 : 1 ≤ n) (hr : hp + n ≤ 3008) (e0 : ot hp = hdV n d) (e1 : ∀ i : Nat, 1 ≤ i → i < n → ot (hp + i) = 0) (e2 : ∀ x : Nat, x < hp → ot x = sp x) :
    HT fi fdn fty (upM S hp (d + 1)) (upM nn hp n) ot (hp + n) := by
  have hx9 : True := trivial
  obtain ⟨a1, a2, a3, a4⟩ := h
  have s0 : ∀ p : Nat, ¬ S p = 0 → p < hp := fun p hp9 => by
    obtain ⟨d9, e9⟩ : ∃ d9, S p = d9 + 1 := ⟨S p - 1, by omega⟩
    by_cases z : p < 8
    · omega
    · have := (a4 p d9 e9 (by omega)).2.1
      have := (a4 p d9 e9 (by omega)).1
      omega
  have mono : ∀ p d9 : Nat, S p = d9 + 1 → upM S hp (d + 1) p = d9 + 1 := fun p d9 e9 => by
    rw [upM_ne (by have := s0 p (by omega); omega)]; exact e9
  refine ⟨by omega, fun p hp9 => (e2 p (by omega)).trans (a2 p hp9), fun p d9 hS hp9 => ?_, fun p d9 hS hp9 => ?_⟩
  · rw [upM_ne (by omega)] at hS
    exact a3 p d9 hS hp9
  · by_cases z : p = hp
    · subst z
      rw [upM_eq] at hS
      have e9 : d9 = d := by omega
      subst e9
      rw [upM_eq]
      refine ⟨h1, by omega, e0, ?_, fun q hq hl => ?_⟩
      · rcases hd with ⟨w1, w2, w3⟩ | ⟨w1, w2, w3, w4⟩
        · refine Or.inl ⟨w1, w2, fun i hi => ?_⟩
          rw [show p + 1 + i = p + (1 + i) by omega, e1 (1 + i) (by omega) (by omega)]
          exact VT.zero (w3 i hi)
        · refine Or.inr ⟨w1, w2, w3, e1 1 (by omega) (by omega), fun i hi => ?_⟩
          rw [show p + 2 + i = p + (2 + i) by omega, e1 (2 + i) (by omega) (by omega)]
          exact VT.zero w4
      · rw [upM_ne (by omega)] at hq
        have := s0 q hq
        omega
    · rw [upM_ne z] at hS
      obtain ⟨k1, k2, k3, k4, k5⟩ := a4 p d9 hS hp9
      rw [upM_ne z]
      refine ⟨k1, by omega, (e2 p (by omega)).trans k3, ?_, fun q hq hl => ?_⟩
      · rcases k4 with ⟨w1, w2, w3⟩ | ⟨w1, w2, w3, w4, w5⟩
        · refine Or.inl ⟨w1, w2, fun i hi => ?_⟩
          rw [e2 (p + 1 + i) (by omega)]
          exact (w3 i hi).mono mono
        · refine Or.inr ⟨w1, w2, w3, (e2 (p + 1) (by omega)).trans w4, fun i hi => ?_⟩
          rw [e2 (p + 2 + i) (by omega)]
          exact (w5 i hi).mono mono
      · by_cases y : q = hp
        · omega
        · rw [upM_ne y] at hq
          exact k5 q hq hl
/-- a cell of a thing is written -/
theorem HT.put (h : HT fi fdn fty S nn sp hp) (hS : S p = d + 1) (hp8 : 8 ≤ p) (hk : d < 60 ∧ k < fdn d ∧ c = p + 1 + k ∧ VT fi S (fty d k) v ∨ 64 ≤ d ∧ k + 2 < nn p ∧ c = p + 2 + k ∧ VT fi S (d - 64) v) : HT fi fdn fty S nn (upV sp c v) hp := by
  have hh := h
  obtain ⟨a1, a2, a3, a4⟩ := h
  obtain ⟨b1, b2, b3, b4, b5⟩ := a4 p d hS hp8
  have hc : p < c ∧ c < p + nn p := by
    rcases b4 with ⟨w1, w2, w3⟩ | ⟨w1, w2, w3, w4, w5⟩ <;> rcases hk with ⟨y1, y2, y3, y4⟩ | ⟨y1, y2, y3, y4⟩ <;> omega
  refine ⟨a1, fun q hq => (upV_ne (by omega)).trans (a2 q hq), a3, fun q e hq hq8 => ?_⟩
  obtain ⟨k1, k2, k3, k4, k5⟩ := a4 q e hq hq8
  by_cases z : q = p
  · subst z
    have e9 : e = d := by omega
    subst e9
    refine ⟨k1, k2, (upV_ne (by omega)).trans k3, ?_, k5⟩
    rcases k4 with ⟨w1, w2, w3⟩ | ⟨w1, w2, w3, w4, w5⟩
    · refine Or.inl ⟨w1, w2, fun i hi => ?_⟩
      rcases hk with ⟨y1, y2, y3, y4⟩ | ⟨y1, y2, y3, y4⟩
      · by_cases x : i = k
        · subst x; rw [y3, upV_eq]; exact y4
        · rw [upV_ne (by omega)]; exact w3 i hi
      · omega
    · rcases hk with ⟨y1, y2, y3, y4⟩ | ⟨y1, y2, y3, y4⟩
      · omega
      · refine Or.inr ⟨w1, w2, w3, (upV_ne (by omega)).trans w4, fun i hi => ?_⟩
        by_cases x : i = k
        · subst x; rw [y3, upV_eq]; exact y4
        · rw [upV_ne (by omega)]; exact w5 i hi
  · have dj : ∀ x : Nat, q ≤ x → x < q + nn q → ¬ x = c := fun x hx1 hx2 hx3 => by
      by_cases y : q < p
      · have := k5 p (by omega) y
        omega
      · have := b5 q (by omega) (by omega)
        omega
    refine ⟨k1, k2, (upV_ne (dj q (by omega) (by omega))).trans k3, ?_, k5⟩
    rcases k4 with ⟨w1, w2, w3⟩ | ⟨w1, w2, w3, w4, w5⟩
    · refine Or.inl ⟨w1, w2, fun i hi => ?_⟩
      rw [upV_ne (dj _ (by omega) (by omega))]; exact w3 i hi
    · refine Or.inr ⟨w1, w2, w3, (upV_ne (dj _ (by omega) (by omega))).trans w4, fun i hi => ?_⟩
      rw [upV_ne (dj _ (by omega) (by omega))]; exact w5 i hi
end XE
/-! the cells that have moved are counted: there is always room for what moves -/
def cnC (f : Nat → Nat) : Nat → Nat
  | 0 => 0
  | n + 1 => cnC f n + f n
def cov (f : Nat → Nat) (p n : Nat) : Nat → Nat := fun y => if p ≤ y ∧ y < p + n then 1 else f y
def GC (nn ph : Nat → Nat) (hp o : Nat) : Prop := ∃ cv : Nat → Nat, (∀ y : Nat, cv y ≤ 1) ∧ (∀ y : Nat, cv y = 1 → ∃ q : Nat, ¬ ph q = 0 ∧ q ≤ y ∧ y < q + nn q) ∧ o = 8 + cnC cv hp
theorem cnC_cov {f : Nat → Nat} {p n : Nat} (hf : ∀ y : Nat, p ≤ y → y < p + n → f y = 0) : ∀ h : Nat, cnC (cov f p n) h = cnC f h + (min h (p + n) - min h p)
  | 0 => by
    show 0 = 0 + _
    omega
  | h + 1 => by
    have ih := cnC_cov hf h
    show cnC (cov f p n) h + cov f p n h = cnC f h + f h + _
    rw [ih]
    by_cases z : p ≤ h ∧ h < p + n
    · rw [show cov f p n h = 1 from if_pos z, hf h z.1 z.2]
      omega
    · rw [show cov f p n h = f h from if_neg z]
      omega
theorem cnC_le {f : Nat → Nat} (h1 : ∀ y : Nat, f y ≤ 1) (h0 : ∀ y : Nat, y < 8 → f y = 0) : ∀ h : Nat, cnC f h ≤ h - 8
  | 0 => Nat.zero_le _
  | h + 1 => by
    have ih := cnC_le h1 h0 h
    show cnC f h + f h ≤ _
    by_cases z : h < 8
    · rw [h0 h z]
      omega
    · have := h1 h
      omega
theorem cnC_zero {f : Nat → Nat} (h0 : ∀ y : Nat, f y = 0) : ∀ h : Nat, cnC f h = 0
  | 0 => rfl
  | h + 1 => by
    show cnC f h + f h = 0
    rw [cnC_zero h0 h, h0 h]
section XC
variable {fi : Nat → Nat → Prop} {S ph nn fdn : Nat → Nat} {fty : Nat → Nat → Nat} {p d o c hp : Nat} {sp sp0 ot : Nat → Int64}
theorem GC.start : GC nn (fun _ => 0) hp 8 := ⟨fun _ => 0, fun _ => Nat.zero_le _, fun y h => absurd (show (0 : Nat) = 1 from h) (by decide), by rw [cnC_zero (fun _ => rfl)]⟩
theorem GC.copy (k : GC nn ph hp o) (g : GI S nn sp0 sp ot o c ph) (h : HT fi fdn fty S nn sp0 hp) (hS : S p = d + 1) (hp8 : 8 ≤ p) (h0 : ph p = 0) : o + nn p ≤ 3008 ∧ GC nn (upM ph p o) hp (o + nn p) := by
  obtain ⟨cv, c1, c2, c3⟩ := k
  obtain ⟨k1, k2, k3, k4, k5⟩ := h.2.2.2 p d hS hp8
  have out : ∀ y : Nat, p ≤ y → y < p + nn p → cv y = 0 := fun y hy1 hy2 => by
    have z1 := c1 y
    refine Classical.byContradiction fun z => ?_
    obtain ⟨q, q1, q2, q3⟩ := c2 y (by omega)
    obtain ⟨a1, a2, _⟩ := g.2.2.1 q q1
    obtain ⟨e, he⟩ : ∃ e, S q = e + 1 := ⟨S q - 1, by omega⟩
    have b5 := (h.2.2.2 q e he a2).2.2.2.2
    have ne : ¬ q = p := fun w => q1 (by rw [w]; exact h0)
    by_cases w : q < p
    · have := b5 p (by omega) w
      omega
    · have := k5 q a1 (by omega)
      omega
  have lo : ∀ y : Nat, y < 8 → cv y = 0 := fun y hy => by
    have z1 := c1 y
    refine Classical.byContradiction fun z => ?_
    obtain ⟨q, q1, q2, q3⟩ := c2 y (by omega)
    have := (g.2.2.1 q q1).2.1
    omega
  have e1 := cnC_cov out hp
  have u1 : ∀ y : Nat, cov cv p (nn p) y ≤ 1 := fun y => by
    unfold cov
    by_cases z : p ≤ y ∧ y < p + nn p
    · rw [if_pos z]; omega
    · rw [if_neg z]; exact c1 y
  have u0 : ∀ y : Nat, y < 8 → cov cv p (nn p) y = 0 := fun y hy => by
    unfold cov
    rw [if_neg (by omega)]; exact lo y hy
  have e2 := cnC_le u1 u0 hp
  have h9 := h.1
  refine ⟨by omega, cov cv p (nn p), u1, fun y hy => ?_, by omega⟩
  by_cases z : p ≤ y ∧ y < p + nn p
  · exact ⟨p, by rw [upM_eq]; have := g.1; omega, z.1, z.2⟩
  · have hy2 : cv y = 1 := by
      unfold cov at hy
      rw [if_neg z] at hy; exact hy
    obtain ⟨q, q1, q2, q3⟩ := c2 y hy2
    exact ⟨q, by rw [upM_ne (fun w => q1 (by rw [w]; exact h0))]; exact q1, q2, q3⟩
end XC

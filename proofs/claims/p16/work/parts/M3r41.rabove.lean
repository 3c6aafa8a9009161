/-! who stands above whom: the matrix, closed by Warshall's way -/
def bitsM (m : Nat → Int32) : Prop := ∀ i : Nat, i < 1600 → m i = 0 ∨ m i = 1
/-- within round k, up to row a and column b -/
def Wst (m da : Nat → Int32) (dc k a b : Nat) : Prop := bitsM da ∧ ∀ x y : Nat, x < 40 → y < 40 → (da (40 * x + y) = 1 ↔ m (40 * x + y) = 1 ∨ (m (40 * x + k) = 1 ∧ m (40 * k + y) = 1 ∧ x < dc ∧ y < dc ∧ (x < a ∨ (x = a ∧ y < b))))
section WA
variable {m da : Nat → Int32} {dc k a b : Nat}
theorem Wst.start (h : bitsM m) : Wst m m dc k 0 0 := ⟨h, fun x y _ _ => ⟨Or.inl, fun z => z.elim id (fun z => absurd z.2.2.2.2 (by omega))⟩⟩
theorem Wst.col (h : Wst m da dc k a b) (ha : a < 40) (hk : k < 40) : da (40 * a + k) = 1 ↔ m (40 * a + k) = 1 := by
  rw [h.2 a k ha hk]
  exact ⟨fun z => z.elim id (fun z => z.1), Or.inl⟩
theorem Wst.line (h : Wst m da dc k a b) (hb : b < 40) (hk : k < 40) : da (40 * k + b) = 1 ↔ m (40 * k + b) = 1 := by
  rw [h.2 k b hk hb]
  exact ⟨fun z => z.elim id (fun z => z.2.1), Or.inl⟩
theorem Wst.hit (h : Wst m da dc k a b) (ha : a < dc) (hb : b < dc) (hd : dc ≤ 40) (h1 : m (40 * a + k) = 1) (h2 : m (40 * k + b) = 1) : Wst m (upd da (40 * a + b) 1) dc k a (b + 1) := by
  refine ⟨fun i hi => ?_, fun x y hx hy => ?_⟩
  · unfold upd
    split
    · exact Or.inr rfl
    · exact h.1 i hi
  · unfold upd
    by_cases e : 40 * x + y = 40 * a + b
    · have e1 : x = a := by omega
      have e2 : y = b := by omega
      subst e1; subst e2
      rw [if_pos rfl]
      exact ⟨fun _ => Or.inr ⟨h1, h2, by omega, by omega, by omega⟩, fun _ => rfl⟩
    · rw [if_neg e, h.2 x y hx hy]
      constructor
      · rintro (z | ⟨z1, z2, z3, z4, z5⟩)
        · exact Or.inl z
        · exact Or.inr ⟨z1, z2, z3, z4, by omega⟩
      · rintro (z | ⟨z1, z2, z3, z4, z5⟩)
        · exact Or.inl z
        · exact Or.inr ⟨z1, z2, z3, z4, by omega⟩
theorem Wst.miss (h : Wst m da dc k a b) (hn : ¬ (m (40 * a + k) = 1 ∧ m (40 * k + b) = 1)) : Wst m da dc k a (b + 1) := by
  refine ⟨h.1, fun x y hx hy => ?_⟩
  rw [h.2 x y hx hy]
  constructor
  · rintro (z | ⟨z1, z2, z3, z4, z5⟩)
    · exact Or.inl z
    · exact Or.inr ⟨z1, z2, z3, z4, by omega⟩
  · rintro (z | ⟨z1, z2, z3, z4, z5⟩)
    · exact Or.inl z
    · by_cases e : x = a ∧ y = b
      · rw [e.1] at z1; rw [e.2] at z2; exact absurd ⟨z1, z2⟩ hn
      · exact Or.inr ⟨z1, z2, z3, z4, by omega⟩
theorem Wst.next (h : Wst m da dc k a b) (hb : dc ≤ b) : Wst m da dc k (a + 1) 0 := by
  refine ⟨h.1, fun x y hx hy => ?_⟩
  rw [h.2 x y hx hy]
  constructor
  · rintro (z | ⟨z1, z2, z3, z4, z5⟩)
    · exact Or.inl z
    · exact Or.inr ⟨z1, z2, z3, z4, by omega⟩
  · rintro (z | ⟨z1, z2, z3, z4, z5⟩)
    · exact Or.inl z
    · exact Or.inr ⟨z1, z2, z3, z4, by omega⟩
/-- a relation's closure -/
def TrC (E : Nat → Nat → Prop) (x y : Nat) : Prop := ∀ P : Nat → Nat → Prop, (∀ a b, E a b → P a b) → (∀ a b c, P a b → P b c → P a c) → P x y
theorem TrC.of {E : Nat → Nat → Prop} {x y : Nat} (h : E x y) : TrC E x y := fun _ h1 _ => h1 _ _ h
theorem TrC.trans {E : Nat → Nat → Prop} {x y z : Nat} (h : TrC E x y) (g : TrC E y z) : TrC E x z := fun P h1 h2 => h2 _ _ _ (h P h1 h2) (g P h1 h2)
theorem TrC.last {E : Nat → Nat → Prop} {x y : Nat} (h : TrC E x y) : ∃ z, E z y ∧ (x = z ∨ TrC E x z) := by
  have w : TrC E x y ∧ ∃ z, E z y ∧ (x = z ∨ TrC E x z) := h (fun a b => TrC E a b ∧ ∃ z, E z b ∧ (a = z ∨ TrC E a z)) (fun a b e => ⟨TrC.of e, a, e, Or.inl rfl⟩) (fun a b c h1 h2 => ⟨h1.1.trans h2.1, by
    obtain ⟨z, z1, z2⟩ := h2.2
    exact ⟨z, z1, Or.inr (z2.elim (fun e => e ▸ h1.1) (fun e => h1.1.trans e))⟩⟩)
  exact w.2
/-- behind round k -/
def Wrd (m0 da : Nat → Int32) (dc k : Nat) : Prop := bitsM da ∧ (∀ x y : Nat, x < 40 → y < 40 → m0 (40 * x + y) = 1 → da (40 * x + y) = 1) ∧ (∀ x y : Nat, x < 40 → y < 40 → da (40 * x + y) = 1 → TrC (fun x y => x < 40 ∧ y < 40 ∧ m0 (40 * x + y) = 1) x y) ∧ ∀ j a b : Nat, j < k → a < dc → b < dc → da (40 * a + j) = 1 → da (40 * j + b) = 1 → da (40 * a + b) = 1
theorem Wrd.start {m0 : Nat → Int32} (h : bitsM m0) : Wrd m0 m0 dc 0 := ⟨h, fun _ _ _ _ z => z, fun x y h1 h2 z => TrC.of ⟨h1, h2, z⟩, fun j _ _ z => absurd z (by omega)⟩
theorem Wrd.step {m0 : Nat → Int32} (h : Wrd m0 m dc k) (g : Wst m da dc k a b) (ha : dc ≤ a) (hk : k < dc) (hd : dc ≤ 40) : Wrd m0 da dc (k + 1) := by
  obtain ⟨h1, h2, h3, h4⟩ := h
  have G : ∀ x y, x < dc → y < dc → (da (40 * x + y) = 1 ↔ m (40 * x + y) = 1 ∨ (m (40 * x + k) = 1 ∧ m (40 * k + y) = 1)) := fun x y hx hy => by
    rw [g.2 x y (by omega) (by omega)]
    exact ⟨fun z => z.imp id (fun z => ⟨z.1, z.2.1⟩), fun z => z.imp id (fun z => ⟨z.1, z.2, hx, hy, by omega⟩)⟩
  refine ⟨g.1, fun x y hx hy z => (g.2 x y hx hy).mpr (Or.inl (h2 x y hx hy z)), fun x y hx hy z => ?_, fun j p q hj hp hq z1 z2 => ?_⟩
  · rcases (g.2 x y hx hy).mp z with z | z
    · exact h3 x y hx hy z
    · exact (h3 x k hx (by omega) z.1).trans (h3 k y (by omega) hy z.2.1)
  · have hj' : j < dc := by omega
    rw [G p q hp hq]
    rw [G p j hp hj'] at z1
    rw [G j q hj' hq] at z2
    by_cases e : j = k
    · subst e
      have y1 : m (40 * p + j) = 1 := z1.elim id (fun z => z.1)
      have y2 : m (40 * j + q) = 1 := z2.elim id (fun z => z.2)
      exact Or.inr ⟨y1, y2⟩
    · have jk : j < k := by omega
      rcases z1 with z1 | ⟨z1, z1'⟩
      · rcases z2 with z2 | ⟨z2, z2'⟩
        · exact Or.inl (h4 j p q jk hp hq z1 z2)
        · exact Or.inr ⟨h4 j p k jk hp hk z1 z2, z2'⟩
      · rcases z2 with z2 | ⟨z2, z2'⟩
        · exact Or.inr ⟨z1, h4 j k q jk hk hq z1' z2⟩
        · exact Or.inr ⟨z1, z2'⟩
/-- edges as they are written down -/
def EdgM (m ds dI : Nat → Int32) (dc d : Nat) : Prop := bitsM m ∧ (∀ x y : Nat, x < 40 → y < 40 → m (40 * x + y) = 1 → 1 ≤ y ∧ y < d ∧ x < dc ∧ (x = 0 ∨ (7 ≤ y ∧ ((dI x = dI y ∧ (dI y = 0 → ds y = nI x)) ∨ dI x = 1)))) ∧ ∀ y : Nat, 1 ≤ y → y < d → m y = 1 ∧ ∃ s : Nat, ds y = nI s ∧ s < dc ∧ (s = 0 ∨ (m (40 * s + y) = 1 ∧ dI s = 0 ∧ dI y = 0))
theorem EdgM.start {ds dI : Nat → Int32} (h : ∀ i : Nat, i < 1600 → m i = 0) : EdgM m ds dI dc 1 := ⟨fun i hi => Or.inl (h i hi), fun x y hx hy z => by rw [h _ (by omega)] at z; exact absurd z (by decide), fun y h1 h2 => absurd h1 (by omega)⟩
theorem EdgM.beg {ds dI : Nat → Int32} {d : Nat} (h : EdgM m ds dI dc d) (h1 : 1 ≤ d) (h2 : d < dc) (hd : dc ≤ 37) : EdgM (upd m d 1) (upd ds d 0) dI dc (d + 1) := by
  obtain ⟨a1, a2, a3⟩ := h
  refine ⟨fun i hi => ?_, fun x y hx hy z => ?_, fun y y1 y2 => ?_⟩
  · unfold upd
    split
    · exact Or.inr rfl
    · exact a1 i hi
  · unfold upd at z ⊢
    by_cases e : 40 * x + y = d
    · have : x = 0 := by omega
      exact ⟨by omega, by omega, by omega, Or.inl this⟩
    · rw [if_neg e] at z
      obtain ⟨q1, q2, q3, q4⟩ := a2 x y hx hy z
      rw [if_neg (by omega)]
      exact ⟨q1, by omega, q3, q4⟩
  · unfold upd
    by_cases e : y = d
    · rw [if_pos e, if_pos e]
      exact ⟨rfl, 0, rfl, by omega, Or.inl rfl⟩
    · rw [if_neg e, if_neg e]
      obtain ⟨q1, s, q2, q3, q4⟩ := a3 y y1 (by omega)
      exact ⟨q1, s, q2, q3, q4.imp id (fun w => ⟨by rw [if_neg (by omega)]; exact w.1, w.2⟩)⟩
/-- an interface's sign above an interface or below a class -/
theorem EdgM.imp {ds dI : Nat → Int32} {d o : Nat} (h : EdgM m ds dI dc (d + 1)) (h1 : 7 ≤ d) (h2 : d < dc) (hd : dc ≤ 37) (ho : o < dc) (hi : dI o = 1) : EdgM (upd m (40 * o + d) 1) ds dI dc (d + 1) := by
  obtain ⟨a1, a2, a3⟩ := h
  refine ⟨fun i hi => ?_, fun x y hx hy z => ?_, fun y y1 y2 => ?_⟩
  · unfold upd
    split
    · exact Or.inr rfl
    · exact a1 i hi
  · unfold upd at z
    by_cases e : 40 * x + y = 40 * o + d
    · have e1 : x = o := by omega
      have e2 : y = d := by omega
      subst e1; subst e2
      exact ⟨by omega, by omega, ho, Or.inr ⟨h1, Or.inr hi⟩⟩
    · rw [if_neg e] at z
      exact a2 x y hx hy z
  · have up : ∀ i, m i = 1 → upd m (40 * o + d) 1 i = 1 := fun i q => by unfold upd; split <;> first | rfl | exact q
    obtain ⟨q1, s, q2, q3, q4⟩ := a3 y y1 y2
    exact ⟨up _ q1, s, q2, q3, q4.imp id (fun w => ⟨up _ w.1, w.2⟩)⟩
/-- an interface's own superclass stays Object -/
theorem EdgM.ds0 {ds dI : Nat → Int32} {d : Nat} (h : EdgM m ds dI dc (d + 1)) (h1 : 1 ≤ d) (h2 : d < dc) (hi : dI d = 1) : EdgM m (upd ds d 0) dI dc (d + 1) := by
  obtain ⟨a1, a2, a3⟩ := h
  refine ⟨a1, fun x y hx hy z => ?_, fun y y1 y2 => ?_⟩
  · obtain ⟨q1, q2, q3, q4⟩ := a2 x y hx hy z
    refine ⟨q1, q2, q3, q4.imp id (fun w => ⟨w.1, w.2.imp (fun w => ⟨w.1, fun e => ?_⟩) id⟩)⟩
    unfold upd
    by_cases q : y = d
    · rw [q, hi] at e; exact absurd e (by decide)
    · rw [if_neg q]; exact w.2 e
  · unfold upd
    by_cases e : y = d
    · rw [if_pos e]
      exact ⟨(a3 y y1 y2).1, 0, rfl, by omega, Or.inl rfl⟩
    · rw [if_neg e]; exact a3 y y1 y2
/-- a class's superclass -/
theorem EdgM.sup {ds dI : Nat → Int32} {d o : Nat} (h : EdgM m ds dI dc (d + 1)) (h1 : 7 ≤ d) (h2 : d < dc) (hd : dc ≤ 37) (ho : o < dc) (h0 : dI d = 0) (hi : dI o = 0) (hf : ∀ x : Nat, x < 40 → m (40 * x + d) = 1 → x = 0) : EdgM (upd m (40 * o + d) 1) (upd ds d (nI o)) dI dc (d + 1) := by
  obtain ⟨a1, a2, a3⟩ := h
  have up : ∀ i, m i = 1 → upd m (40 * o + d) 1 i = 1 := fun i q => by unfold upd; split <;> first | rfl | exact q
  refine ⟨fun i hi => ?_, fun x y hx hy z => ?_, fun y y1 y2 => ?_⟩
  · unfold upd
    split
    · exact Or.inr rfl
    · exact a1 i hi
  · unfold upd at z ⊢
    by_cases e : 40 * x + y = 40 * o + d
    · have e1 : x = o := by omega
      have e2 : y = d := by omega
      subst e1; subst e2
      rw [if_pos rfl]
      exact ⟨by omega, by omega, ho, Or.inr ⟨h1, Or.inl ⟨by rw [hi, h0], fun _ => rfl⟩⟩⟩
    · rw [if_neg e] at z
      obtain ⟨q1, q2, q3, q4⟩ := a2 x y hx hy z
      by_cases q : y = d
      · rw [q] at z; exact ⟨q1, q2, q3, Or.inl (hf x hx z)⟩
      · rw [if_neg q]; exact ⟨q1, q2, q3, q4⟩
  · by_cases e : y = d
    · subst e
      exact ⟨up _ (a3 y y1 y2).1, o, if_pos rfl, ho, Or.inr ⟨if_pos rfl, hi, h0⟩⟩
    · obtain ⟨q1, s, q2, q3, q4⟩ := a3 y y1 y2
      exact ⟨up _ q1, s, by unfold upd; rw [if_neg e]; exact q2, q3, q4.imp id (fun w => ⟨up _ w.1, w.2⟩)⟩
/-- right behind its opening only Object stands above d -/
theorem EdgM.fresh {ds dI : Nat → Int32} {d : Nat} (h : EdgM m ds dI dc d) (h1 : 1 ≤ d) (h2 : d < 40) : ∀ x : Nat, x < 40 → upd m d 1 (40 * x + d) = 1 → x = 0 := fun x hx z => by
  by_cases e : x = 0
  · exact e
  · unfold upd at z
    rw [if_neg (by omega)] at z
    have := (h.2.1 x d hx h2 z).2.1
    omega
/-- what the second round leaves -/
def AbOK (da ds dI : Nat → Int32) (dc : Nat) : Prop := bitsM da ∧ (∀ j a b : Nat, j < dc → a < dc → b < dc → da (40 * a + j) = 1 → da (40 * j + b) = 1 → da (40 * a + b) = 1) ∧ (∀ y : Nat, 1 ≤ y → y < dc → da y = 1 ∧ ∃ s : Nat, ds y = nI s ∧ s < dc ∧ (s = 0 ∨ (da (40 * s + y) = 1 ∧ dI s = 0 ∧ dI y = 0))) ∧ ∀ x y : Nat, x < 40 → y < 40 → da (40 * x + y) = 1 → x < dc ∧ 1 ≤ y ∧ y < dc ∧ ∃ z : Nat, z < dc ∧ da (40 * z + y) = 1 ∧ (z = 0 ∨ (7 ≤ y ∧ ((dI z = dI y ∧ (dI y = 0 → ds y = nI z)) ∨ dI z = 1))) ∧ (x = z ∨ da (40 * x + z) = 1)
theorem AbOK.mk {m0 ds dI : Nat → Int32} (h : Wrd m0 da dc dc) (e : EdgM m0 ds dI dc dc) (hd : dc ≤ 37) : AbOK da ds dI dc := by
  obtain ⟨h1, h2, h3, h4⟩ := h
  obtain ⟨e1, e2, e3⟩ := e
  have full : ∀ x y, TrC (fun x y => x < 40 ∧ y < 40 ∧ m0 (40 * x + y) = 1) x y → x < dc ∧ y < dc ∧ da (40 * x + y) = 1 := fun x y t =>
    t (fun x y => x < dc ∧ y < dc ∧ da (40 * x + y) = 1) (fun a b z => by
      obtain ⟨q1, q2, q3, _⟩ := e2 a b z.1 z.2.1 z.2.2
      exact ⟨q3, q2, h2 a b z.1 z.2.1 z.2.2⟩) (fun a b c z1 z2 => ⟨z1.1, z2.2.1, h4 b a c z1.2.1 z1.1 z2.2.1 z1.2.2 z2.2.2⟩)
  refine ⟨h1, fun j a b hj ha hb => h4 j a b hj ha hb, fun y y1 y2 => ?_, fun x y hx hy z => ?_⟩
  · obtain ⟨q1, s, q2, q3, q4⟩ := e3 y y1 y2
    refine ⟨by have := h2 0 y (by omega) (by omega) (by rw [Nat.mul_zero, Nat.zero_add]; exact q1); rw [Nat.mul_zero, Nat.zero_add] at this; exact this, s, q2, q3, q4.imp id (fun w => ⟨h2 s y (by omega) (by omega) w.1, w.2⟩)⟩
  · have t := h3 x y hx hy z
    obtain ⟨w, ⟨w1, w2, w3⟩, w4⟩ := t.last
    obtain ⟨q1, q2, q3, q4⟩ := e2 w y w1 w2 w3
    exact ⟨(full x y t).1, q1, q2, w, q3, h2 w y w1 w2 w3, q4, w4.imp id (fun v => (full x w v).2.2)⟩
/-- how many stand above -/
def cntA (da : Nat → Int32) (d : Nat) : Nat → Nat
  | 0 => 0
  | n + 1 => cntA da d n + (if da (40 * n + d) = 1 then 1 else 0)
theorem cntA_le {d : Nat} : ∀ n : Nat, cntA da d n ≤ n := by
  intro n
  induction n with
  | zero => exact Nat.le_refl _
  | succ n ih => show cntA da d n + _ ≤ _; split <;> omega
theorem cntA_mono {s d : Nat} : ∀ n : Nat, (∀ x : Nat, x < n → da (40 * x + s) = 1 → da (40 * x + d) = 1) → cntA da s n ≤ cntA da d n := by
  intro n
  induction n with
  | zero => intro _; exact Nat.le_refl _
  | succ n ih =>
    intro h
    have i1 := ih (fun x hx => h x (by omega))
    show cntA da s n + _ ≤ cntA da d n + _
    by_cases e : da (40 * n + s) = 1
    · rw [if_pos e, if_pos (h n (by omega) e)]; omega
    · rw [if_neg e]; omega
theorem cntA_lt {s d z : Nat} : ∀ n : Nat, (∀ x : Nat, x < n → da (40 * x + s) = 1 → da (40 * x + d) = 1) → z < n → da (40 * z + d) = 1 → ¬ da (40 * z + s) = 1 → cntA da s n < cntA da d n := by
  intro n
  induction n with
  | zero => intro _ h; exact absurd h (by omega)
  | succ n ih =>
    intro h hz h1 h2
    show cntA da s n + _ < cntA da d n + _
    by_cases q : z = n
    · subst q
      have := cntA_mono (da := da) (s := s) (d := d) z (fun x hx => h x (by omega))
      rw [if_neg h2, if_pos h1]; omega
    · have i1 := ih (fun x hx => h x (by omega)) (by omega) h1 h2
      by_cases e : da (40 * n + s) = 1
      · rw [if_pos e, if_pos (h n (by omega) e)]; omega
      · rw [if_neg e]; omega
end WA
theorem Sng.one {X : Nat → Nat → Int32} {dc ls d i : Nat} (h : Sng X dc ls) (hd : d < dc) (e : X 26 d = 0) (hl : ls ≤ 5000) (hn : ¬ itr (X 23) (X 27 d) i = -1) : i = 0 := by
  rcases h d hd e with z | ⟨p, z1, z2, z3⟩
  · exact absurd (itr_m1 (k := 0) z i (Nat.zero_le _)) hn
  · by_cases q : i = 0
    · exact q
    · have w : itr (X 23) (X 27 d) 1 = -1 := (itr_s (k := 0) z1 (by omega)).trans z3
      exact absurd (itr_m1 w i (by omega)) hn
theorem gdM.get {f V lt dI : Nat → Int32} {dc lz T : Nat} {b w : Int32} (h : gdM f V lt dI dc lz T b w) (hn : ¬ w = -1) : ∃ p t d : Nat, w = nI p ∧ p < lz ∧ lt p = nI t ∧ t ≤ T ∧ dOf f (V t) dc 0 = nI d ∧ d < dc ∧ dI d = b := Or.resolve_left h hn
theorem bitsM.one {m : Nat → Int32} {i : Nat} (h : bitsM m) (hi : i < 1600) (hn : ¬ m i = 0) : m i = 1 := (h i hi).resolve_left hn
theorem bitsM.not {m : Nat → Int32} {i : Nat} (e : m i = 0) : ¬ m i = 1 := fun q => by rw [e] at q; exact absurd q (by decide)
theorem dX12_findAbove_0 : decode cX12_findAbove 0 = .ok (.iconst 0, 1) := by decide +kernel
theorem dX12_findAbove_1 : decode cX12_findAbove 1 = .ok (.istore_n 1, 1) := by decide +kernel
theorem dX12_findAbove_2 : decode cX12_findAbove 2 = .ok (.iload_n 1, 1) := by decide +kernel
theorem dX12_findAbove_3 : decode cX12_findAbove 3 = .ok (.sipush 1600, 3) := by decide +kernel
theorem dX12_findAbove_6 : decode cX12_findAbove 6 = .ok (.if_icmp .ge 16, 3) := by decide +kernel
theorem dX12_findAbove_22 : decode cX12_findAbove 22 = .ok (.iconst 1, 1) := by decide +kernel
theorem dX12_findAbove_23 : decode cX12_findAbove 23 = .ok (.istore_n 1, 1) := by decide +kernel
theorem dX12_findAbove_24 : decode cX12_findAbove 24 = .ok (.iload_n 1, 1) := by decide +kernel
theorem dX12_findAbove_25 : decode cX12_findAbove 25 = .ok (.aload_n 0, 1) := by decide +kernel
theorem dX12_findAbove_26 : decode cX12_findAbove 26 = .ok (.getfield 384, 3) := by decide +kernel
theorem dX12_findAbove_29 : decode cX12_findAbove 29 = .ok (.if_icmp .ge 141, 3) := by decide +kernel
theorem dX12_findAbove_170 : decode cX12_findAbove 170 = .ok (.iconst 0, 1) := by decide +kernel
theorem dX12_findAbove_171 : decode cX12_findAbove 171 = .ok (.istore_n 1, 1) := by decide +kernel
theorem dX12_findAbove_172 : decode cX12_findAbove 172 = .ok (.iload_n 1, 1) := by decide +kernel
theorem dX12_findAbove_173 : decode cX12_findAbove 173 = .ok (.aload_n 0, 1) := by decide +kernel
theorem dX12_findAbove_174 : decode cX12_findAbove 174 = .ok (.getfield 384, 3) := by decide +kernel
theorem dX12_findAbove_177 : decode cX12_findAbove 177 = .ok (.if_icmp .ge 81, 3) := by decide +kernel
theorem dX12_findAbove_258 : decode cX12_findAbove 258 = .ok (.return_, 1) := by decide +kernel
theorem dX12_findAbove_180 : decode cX12_findAbove 180 = .ok (.iconst 0, 1) := by decide +kernel
theorem dX12_findAbove_181 : decode cX12_findAbove 181 = .ok (.istore_n 2, 1) := by decide +kernel
theorem dX12_findAbove_182 : decode cX12_findAbove 182 = .ok (.iload_n 2, 1) := by decide +kernel
theorem dX12_findAbove_183 : decode cX12_findAbove 183 = .ok (.aload_n 0, 1) := by decide +kernel
theorem dX12_findAbove_184 : decode cX12_findAbove 184 = .ok (.getfield 384, 3) := by decide +kernel
theorem dX12_findAbove_187 : decode cX12_findAbove 187 = .ok (.if_icmp .ge 65, 3) := by decide +kernel
theorem dX12_findAbove_252 : decode cX12_findAbove 252 = .ok (.iinc 1 1, 3) := by decide +kernel
theorem dX12_findAbove_255 : decode cX12_findAbove 255 = .ok (.goto (-83), 3) := by decide +kernel
theorem dX12_findAbove_190 : decode cX12_findAbove 190 = .ok (.iconst 0, 1) := by decide +kernel
theorem dX12_findAbove_191 : decode cX12_findAbove 191 = .ok (.istore_n 3, 1) := by decide +kernel
theorem dX12_findAbove_192 : decode cX12_findAbove 192 = .ok (.iload_n 3, 1) := by decide +kernel
theorem dX12_findAbove_193 : decode cX12_findAbove 193 = .ok (.aload_n 0, 1) := by decide +kernel
theorem dX12_findAbove_194 : decode cX12_findAbove 194 = .ok (.getfield 384, 3) := by decide +kernel
theorem dX12_findAbove_197 : decode cX12_findAbove 197 = .ok (.if_icmp .ge 49, 3) := by decide +kernel
theorem dX12_findAbove_246 : decode cX12_findAbove 246 = .ok (.iinc 2 1, 3) := by decide +kernel
theorem dX12_findAbove_249 : decode cX12_findAbove 249 = .ok (.goto (-67), 3) := by decide +kernel
theorem dX12_findAbove_200 : decode cX12_findAbove 200 = .ok (.aload_n 0, 1) := by decide +kernel
theorem dX12_findAbove_201 : decode cX12_findAbove 201 = .ok (.getfield 105, 3) := by decide +kernel
theorem dX12_findAbove_204 : decode cX12_findAbove 204 = .ok (.bipush 40, 2) := by decide +kernel
theorem dX12_findAbove_206 : decode cX12_findAbove 206 = .ok (.iload_n 2, 1) := by decide +kernel
theorem dX12_findAbove_207 : decode cX12_findAbove 207 = .ok (.imul, 1) := by decide +kernel
theorem dX12_findAbove_208 : decode cX12_findAbove 208 = .ok (.iload_n 1, 1) := by decide +kernel
theorem dX12_findAbove_209 : decode cX12_findAbove 209 = .ok (.iadd, 1) := by decide +kernel
theorem dX12_findAbove_210 : decode cX12_findAbove 210 = .ok (.baload, 1) := by decide +kernel
theorem dX12_findAbove_211 : decode cX12_findAbove 211 = .ok (.ifCond .eq 29, 3) := by decide +kernel
theorem dX12_findAbove_240 : decode cX12_findAbove 240 = .ok (.iinc 3 1, 3) := by decide +kernel
theorem dX12_findAbove_243 : decode cX12_findAbove 243 = .ok (.goto (-51), 3) := by decide +kernel
theorem dX12_findAbove_214 : decode cX12_findAbove 214 = .ok (.aload_n 0, 1) := by decide +kernel
theorem dX12_findAbove_215 : decode cX12_findAbove 215 = .ok (.getfield 105, 3) := by decide +kernel
theorem dX12_findAbove_218 : decode cX12_findAbove 218 = .ok (.bipush 40, 2) := by decide +kernel
theorem dX12_findAbove_220 : decode cX12_findAbove 220 = .ok (.iload_n 1, 1) := by decide +kernel
theorem dX12_findAbove_221 : decode cX12_findAbove 221 = .ok (.imul, 1) := by decide +kernel
theorem dX12_findAbove_222 : decode cX12_findAbove 222 = .ok (.iload_n 3, 1) := by decide +kernel
theorem dX12_findAbove_223 : decode cX12_findAbove 223 = .ok (.iadd, 1) := by decide +kernel
theorem dX12_findAbove_224 : decode cX12_findAbove 224 = .ok (.baload, 1) := by decide +kernel
theorem dX12_findAbove_225 : decode cX12_findAbove 225 = .ok (.ifCond .eq 15, 3) := by decide +kernel
theorem dX12_findAbove_228 : decode cX12_findAbove 228 = .ok (.aload_n 0, 1) := by decide +kernel
theorem dX12_findAbove_229 : decode cX12_findAbove 229 = .ok (.getfield 105, 3) := by decide +kernel
theorem dX12_findAbove_232 : decode cX12_findAbove 232 = .ok (.bipush 40, 2) := by decide +kernel
theorem dX12_findAbove_234 : decode cX12_findAbove 234 = .ok (.iload_n 2, 1) := by decide +kernel
theorem dX12_findAbove_235 : decode cX12_findAbove 235 = .ok (.imul, 1) := by decide +kernel
theorem dX12_findAbove_236 : decode cX12_findAbove 236 = .ok (.iload_n 3, 1) := by decide +kernel
theorem dX12_findAbove_237 : decode cX12_findAbove 237 = .ok (.iadd, 1) := by decide +kernel
theorem dX12_findAbove_238 : decode cX12_findAbove 238 = .ok (.iconst 1, 1) := by decide +kernel
theorem dX12_findAbove_239 : decode cX12_findAbove 239 = .ok (.bastore, 1) := by decide +kernel
theorem dX12_findAbove_32 : decode cX12_findAbove 32 = .ok (.aload_n 0, 1) := by decide +kernel
theorem dX12_findAbove_33 : decode cX12_findAbove 33 = .ok (.getfield 105, 3) := by decide +kernel
theorem dX12_findAbove_36 : decode cX12_findAbove 36 = .ok (.iload_n 1, 1) := by decide +kernel
theorem dX12_findAbove_37 : decode cX12_findAbove 37 = .ok (.iconst 1, 1) := by decide +kernel
theorem dX12_findAbove_38 : decode cX12_findAbove 38 = .ok (.bastore, 1) := by decide +kernel
theorem dX12_findAbove_39 : decode cX12_findAbove 39 = .ok (.aload_n 0, 1) := by decide +kernel
theorem dX12_findAbove_40 : decode cX12_findAbove 40 = .ok (.getfield 99, 3) := by decide +kernel
theorem dX12_findAbove_43 : decode cX12_findAbove 43 = .ok (.iload_n 1, 1) := by decide +kernel
theorem dX12_findAbove_44 : decode cX12_findAbove 44 = .ok (.iconst 0, 1) := by decide +kernel
theorem dX12_findAbove_45 : decode cX12_findAbove 45 = .ok (.iastore, 1) := by decide +kernel
theorem dX12_findAbove_46 : decode cX12_findAbove 46 = .ok (.aload_n 0, 1) := by decide +kernel
theorem dX12_findAbove_47 : decode cX12_findAbove 47 = .ok (.getfield 93, 3) := by decide +kernel
theorem dX12_findAbove_50 : decode cX12_findAbove 50 = .ok (.iload_n 1, 1) := by decide +kernel
theorem dX12_findAbove_51 : decode cX12_findAbove 51 = .ok (.iaload, 1) := by decide +kernel
theorem dX12_findAbove_52 : decode cX12_findAbove 52 = .ok (.istore_n 2, 1) := by decide +kernel
theorem dX12_findAbove_53 : decode cX12_findAbove 53 = .ok (.iload_n 2, 1) := by decide +kernel
theorem dX12_findAbove_54 : decode cX12_findAbove 54 = .ok (.iconst (-1), 1) := by decide +kernel
theorem dX12_findAbove_55 : decode cX12_findAbove 55 = .ok (.if_icmp .eq 61, 3) := by decide +kernel
theorem dX12_findAbove_116 : decode cX12_findAbove 116 = .ok (.aload_n 0, 1) := by decide +kernel
theorem dX12_findAbove_117 : decode cX12_findAbove 117 = .ok (.getfield 96, 3) := by decide +kernel
theorem dX12_findAbove_120 : decode cX12_findAbove 120 = .ok (.iload_n 1, 1) := by decide +kernel
theorem dX12_findAbove_121 : decode cX12_findAbove 121 = .ok (.iaload, 1) := by decide +kernel
theorem dX12_findAbove_122 : decode cX12_findAbove 122 = .ok (.istore_n 2, 1) := by decide +kernel
theorem dX12_findAbove_123 : decode cX12_findAbove 123 = .ok (.iload_n 2, 1) := by decide +kernel
theorem dX12_findAbove_124 : decode cX12_findAbove 124 = .ok (.iconst (-1), 1) := by decide +kernel
theorem dX12_findAbove_125 : decode cX12_findAbove 125 = .ok (.if_icmp .eq 39, 3) := by decide +kernel
theorem dX12_findAbove_164 : decode cX12_findAbove 164 = .ok (.iinc 1 1, 3) := by decide +kernel
theorem dX12_findAbove_167 : decode cX12_findAbove 167 = .ok (.goto (-143), 3) := by decide +kernel
theorem dX12_findAbove_128 : decode cX12_findAbove 128 = .ok (.aload_n 0, 1) := by decide +kernel
theorem dX12_findAbove_129 : decode cX12_findAbove 129 = .ok (.getfield 105, 3) := by decide +kernel
theorem dX12_findAbove_132 : decode cX12_findAbove 132 = .ok (.bipush 40, 2) := by decide +kernel
theorem dX12_findAbove_134 : decode cX12_findAbove 134 = .ok (.aload_n 0, 1) := by decide +kernel
theorem dX12_findAbove_135 : decode cX12_findAbove 135 = .ok (.aload_n 0, 1) := by decide +kernel
theorem dX12_findAbove_136 : decode cX12_findAbove 136 = .ok (.getfield 25, 3) := by decide +kernel
theorem dX12_findAbove_139 : decode cX12_findAbove 139 = .ok (.aload_n 0, 1) := by decide +kernel
theorem dX12_findAbove_140 : decode cX12_findAbove 140 = .ok (.getfield 78, 3) := by decide +kernel
theorem dX12_findAbove_143 : decode cX12_findAbove 143 = .ok (.iload_n 2, 1) := by decide +kernel
theorem dX12_findAbove_144 : decode cX12_findAbove 144 = .ok (.iaload, 1) := by decide +kernel
theorem dX12_findAbove_145 : decode cX12_findAbove 145 = .ok (.iaload, 1) := by decide +kernel
theorem dX12_findAbove_146 : decode cX12_findAbove 146 = .ok (.invokevirtual 499, 3) := by decide +kernel
theorem dX12_findAbove_149 : decode cX12_findAbove 149 = .ok (.imul, 1) := by decide +kernel
theorem dX12_findAbove_150 : decode cX12_findAbove 150 = .ok (.iload_n 1, 1) := by decide +kernel
theorem dX12_findAbove_151 : decode cX12_findAbove 151 = .ok (.iadd, 1) := by decide +kernel
theorem dX12_findAbove_152 : decode cX12_findAbove 152 = .ok (.iconst 1, 1) := by decide +kernel
theorem dX12_findAbove_153 : decode cX12_findAbove 153 = .ok (.bastore, 1) := by decide +kernel
theorem dX12_findAbove_154 : decode cX12_findAbove 154 = .ok (.aload_n 0, 1) := by decide +kernel
theorem dX12_findAbove_155 : decode cX12_findAbove 155 = .ok (.getfield 81, 3) := by decide +kernel
theorem dX12_findAbove_158 : decode cX12_findAbove 158 = .ok (.iload_n 2, 1) := by decide +kernel
theorem dX12_findAbove_159 : decode cX12_findAbove 159 = .ok (.iaload, 1) := by decide +kernel
theorem dX12_findAbove_160 : decode cX12_findAbove 160 = .ok (.istore_n 2, 1) := by decide +kernel
theorem dX12_findAbove_161 : decode cX12_findAbove 161 = .ok (.goto (-38), 3) := by decide +kernel
theorem dX12_findAbove_58 : decode cX12_findAbove 58 = .ok (.aload_n 0, 1) := by decide +kernel
theorem dX12_findAbove_59 : decode cX12_findAbove 59 = .ok (.aload_n 0, 1) := by decide +kernel
theorem dX12_findAbove_60 : decode cX12_findAbove 60 = .ok (.getfield 25, 3) := by decide +kernel
theorem dX12_findAbove_63 : decode cX12_findAbove 63 = .ok (.aload_n 0, 1) := by decide +kernel
theorem dX12_findAbove_64 : decode cX12_findAbove 64 = .ok (.getfield 78, 3) := by decide +kernel
theorem dX12_findAbove_67 : decode cX12_findAbove 67 = .ok (.iload_n 2, 1) := by decide +kernel
theorem dX12_findAbove_68 : decode cX12_findAbove 68 = .ok (.iaload, 1) := by decide +kernel
theorem dX12_findAbove_69 : decode cX12_findAbove 69 = .ok (.iaload, 1) := by decide +kernel
theorem dX12_findAbove_70 : decode cX12_findAbove 70 = .ok (.invokevirtual 499, 3) := by decide +kernel
theorem dX12_findAbove_73 : decode cX12_findAbove 73 = .ok (.istore_n 3, 1) := by decide +kernel
theorem dX12_findAbove_74 : decode cX12_findAbove 74 = .ok (.aload_n 0, 1) := by decide +kernel
theorem dX12_findAbove_75 : decode cX12_findAbove 75 = .ok (.getfield 105, 3) := by decide +kernel
theorem dX12_findAbove_78 : decode cX12_findAbove 78 = .ok (.bipush 40, 2) := by decide +kernel
theorem dX12_findAbove_80 : decode cX12_findAbove 80 = .ok (.iload_n 3, 1) := by decide +kernel
theorem dX12_findAbove_81 : decode cX12_findAbove 81 = .ok (.imul, 1) := by decide +kernel
theorem dX12_findAbove_82 : decode cX12_findAbove 82 = .ok (.iload_n 1, 1) := by decide +kernel
theorem dX12_findAbove_83 : decode cX12_findAbove 83 = .ok (.iadd, 1) := by decide +kernel
theorem dX12_findAbove_84 : decode cX12_findAbove 84 = .ok (.iconst 1, 1) := by decide +kernel
theorem dX12_findAbove_85 : decode cX12_findAbove 85 = .ok (.bastore, 1) := by decide +kernel
theorem dX12_findAbove_86 : decode cX12_findAbove 86 = .ok (.aload_n 0, 1) := by decide +kernel
theorem dX12_findAbove_87 : decode cX12_findAbove 87 = .ok (.getfield 99, 3) := by decide +kernel
theorem dX12_findAbove_90 : decode cX12_findAbove 90 = .ok (.iload_n 1, 1) := by decide +kernel
theorem dX12_findAbove_91 : decode cX12_findAbove 91 = .ok (.aload_n 0, 1) := by decide +kernel
theorem dX12_findAbove_92 : decode cX12_findAbove 92 = .ok (.getfield 90, 3) := by decide +kernel
theorem dX12_findAbove_95 : decode cX12_findAbove 95 = .ok (.iload_n 1, 1) := by decide +kernel
theorem dX12_findAbove_96 : decode cX12_findAbove 96 = .ok (.baload, 1) := by decide +kernel
theorem dX12_findAbove_97 : decode cX12_findAbove 97 = .ok (.ifCond .eq 7, 3) := by decide +kernel
theorem dX12_findAbove_104 : decode cX12_findAbove 104 = .ok (.iload_n 3, 1) := by decide +kernel
theorem dX12_findAbove_105 : decode cX12_findAbove 105 = .ok (.iastore, 1) := by decide +kernel
theorem dX12_findAbove_106 : decode cX12_findAbove 106 = .ok (.aload_n 0, 1) := by decide +kernel
theorem dX12_findAbove_107 : decode cX12_findAbove 107 = .ok (.getfield 81, 3) := by decide +kernel
theorem dX12_findAbove_110 : decode cX12_findAbove 110 = .ok (.iload_n 2, 1) := by decide +kernel
theorem dX12_findAbove_111 : decode cX12_findAbove 111 = .ok (.iaload, 1) := by decide +kernel
theorem dX12_findAbove_112 : decode cX12_findAbove 112 = .ok (.istore_n 2, 1) := by decide +kernel
theorem dX12_findAbove_113 : decode cX12_findAbove 113 = .ok (.goto (-60), 3) := by decide +kernel
theorem dX12_findAbove_100 : decode cX12_findAbove 100 = .ok (.iconst 0, 1) := by decide +kernel
theorem dX12_findAbove_101 : decode cX12_findAbove 101 = .ok (.goto 4, 3) := by decide +kernel
theorem dX12_findAbove_9 : decode cX12_findAbove 9 = .ok (.aload_n 0, 1) := by decide +kernel
theorem dX12_findAbove_10 : decode cX12_findAbove 10 = .ok (.getfield 105, 3) := by decide +kernel
theorem dX12_findAbove_13 : decode cX12_findAbove 13 = .ok (.iload_n 1, 1) := by decide +kernel
theorem dX12_findAbove_14 : decode cX12_findAbove 14 = .ok (.iconst 0, 1) := by decide +kernel
theorem dX12_findAbove_15 : decode cX12_findAbove 15 = .ok (.bastore, 1) := by decide +kernel
theorem dX12_findAbove_16 : decode cX12_findAbove 16 = .ok (.iinc 1 1, 3) := by decide +kernel
theorem dX12_findAbove_19 : decode cX12_findAbove 19 = .ok (.goto (-17), 3) := by decide +kernel
set_option maxHeartbeats 8000000 in
set_option maxRecDepth 100000 in
/-- findAbove() -/
theorem R_findAbove (l : Launch) (G : pT) (h0 : Nat) (a : Nat → Nat) (F : Nat → Int32) (B : Nat → Nat → Int32) (dc : Nat) (lz : Nat) (T : Nat) (nm : Nat) (wr : Nat) (fd : Nat) (md : Nat) (pr : Nat) (bk : Nat) (hT : T ≤ 5000) (hlz : lz ≤ 5000) (hdc : 7 ≤ dc ∧ dc ≤ 37) (hps : PS T nm wr lz dc fd md pr bk B) (hlr : lsRow (B 22) (B 23) lz T) (hcn : ∀ d : Nat, d < dc → CnD B dc lz T d) (hsn : Sng B dc lz) : PM l G pX0 yX12_findAbove cX12_findAbove 4 none ({ frames := 3, cells := 0, slots := 0, locals := 82 }) [.ref h0] (mW G h0 a (upd F 35 (nI dc)) B) (fun (v : Option Value) (u : (Nat → Int32) × (Nat → Int32)) => v = none ∧ (AbOK u.1 u.2 (B 26) dc)) (fun u => (mW G h0 a (upd F 35 (nI dc)) (updA (updA B 29 u.2) 31 u.1))) := by
  intro sz
  refine Met.ofW (cc := cX12_findAbove) (maxL := 4) (ret := none) (by decide) rfl ?_
  intro p e s m args below meth c s₁ B9 hml hv
  obtain ⟨rfl, hsz, hP, hD0, hE, hX⟩ := hv
  have hx := B9.exec
  have hb := B9.bytes
  have hr := B9.returns
  have hts := atoms_spec (ws := Cond.code yX12_findAbove cX12_findAbove 4 none :: pw) B9.pre
  have hq : ∀ w ∈ pw, w.before _ s = true := fun w h => hts w (List.mem_cons_of_mem _ h)
  have hown : s.vm.findClass RX12 = some m.cls := findClass_of_methodNamed B9.named
  have hlocks := B9.notSynchronized
  subst hsz
  have hD := hD0.self (sz := s.heap.size)
  have hA : ∀ q : Nat, s.heap.size ≤ q → va_A (mW G h0 a (upd F 35 (nI dc)) B) s.heap.size q := fun q h => Or.inr h
  have hP : va_P G.1 pCl (mW G h0 a (upd F 35 (nI dc)) B) s.heap := hP
  generalize va_A (mW G h0 a (upd F 35 (nI dc)) B) s.heap.size = A at hD hE hA ⊢
  have hS : va_S A s.heap s.heap [] := va_S.rf
  have hl := lv_entry ([.ref h0]) (n := 4) (Nat.le_of_ble_eq_true rfl)
  rw [lg_entry_eq]
  generalize (lg_sl ([.ref h0]) ++ List.replicate (4 - (lg_sl ([.ref h0])).length) Slot.unset).toArray = ls at hl ⊢
  have hl : lv_has ls 4 [(0, .ref h0)] := hl
  refine lv_iconst (v := 0) hx hb dX12_findAbove_0 (by decide) ?_
  refine lv_istore_n (lv' := [(1, .int 0), (0, .ref h0)]) hx hb dX12_findAbove_1 rfl hl (by decide) rfl (fun ls hl => ?_)
  have loop_z : ∀ (n_z : Nat) (k2 : Nat) (da2 : Nat → Int32) (H : Heap) (locs : List Loc) (ls : Array Slot), k2 ≤ 1600 → 1600 + 1 ≤ k2 + n_z → (∀ i : Nat, i < k2 → da2 i = 0) → va_P G.1 pCl (mW G h0 a (upd F 35 (nI dc)) (updA B 31 da2)) H → va_D A (mW G h0 a (upd F 35 (nI dc)) (updA B 31 da2)) → va_S A s.heap H locs → lv_has ls 4 [(1, .int (nI k2)), (0, .ref h0)] → W p l e (headSpec (Cond.code yX12_findAbove cX12_findAbove 4 none :: pw) ({ frames := 3, cells := 0, slots := 0, locals := 82 } : Room)).room s m ([.ref h0] : List Value).toArray below meth c H locs 0 0 (MQ below (pQ G A (fun (v : Option Value) (u : (Nat → Int32) × (Nat → Int32)) => v = none ∧ (AbOK u.1 u.2 (B 26) dc)) (fun u => (mW G h0 a (upd F 35 (nI dc)) (updA (updA B 29 u.2) 31 u.1)))) ([.ref h0] : List Value).toArray s ({ frames := 3, cells := 0, slots := 0, locals := 82 } : Room).cells ({ frames := 3, cells := 0, slots := 0, locals := 82 } : Room).slots A) (F0 m 2 ls []) := by
    intro n_z
    induction n_z with
    | zero => intro k2 da2 H locs ls hk_z hn_z; omega
    | succ n_z ih_z =>
      intro k2 da2 H locs ls hk_z hn_z hz hP hD hS hl
      refine lv_iload_n hx hb dX12_findAbove_2 rfl (lv_at hl 0 rfl) ?_
      refine lv_sipush (v := 1600) hx hb dX12_findAbove_3 (by decide) ?_
      refine lv_icmp_ge (tgt := 22) hx hb dX12_findAbove_6 (by decide) (fun c1 => ?_) (fun c1 => ?_)
      · have n2 : 1600 ≤ k2 := (nI_leI (a := 1600) (b := k2) (by omega) (by omega)).mp c1
        refine lv_iconst (v := 1) hx hb dX12_findAbove_22 (by decide) ?_
        refine lv_istore_n (lv' := [(1, .int 1), (0, .ref h0)]) hx hb dX12_findAbove_23 rfl hl (by decide) rfl (fun ls hl => ?_)
        have loop_d : ∀ (n_d : Nat) (d2 : Nat) (da3 : Nat → Int32) (ds3 : Nat → Int32) (H : Heap) (locs : List Loc) (ls : Array Slot), d2 ≤ dc → dc + 1 ≤ d2 + n_d → (1 ≤ d2) → (EdgM da3 ds3 (B 26) dc d2) → va_P G.1 pCl (mW G h0 a (upd F 35 (nI dc)) (updA (updA B 29 ds3) 31 da3)) H → va_D A (mW G h0 a (upd F 35 (nI dc)) (updA (updA B 29 ds3) 31 da3)) → va_S A s.heap H locs → lv_has ls 4 [(1, .int (nI d2)), (0, .ref h0)] → W p l e (headSpec (Cond.code yX12_findAbove cX12_findAbove 4 none :: pw) ({ frames := 3, cells := 0, slots := 0, locals := 82 } : Room)).room s m ([.ref h0] : List Value).toArray below meth c H locs 0 0 (MQ below (pQ G A (fun (v : Option Value) (u : (Nat → Int32) × (Nat → Int32)) => v = none ∧ (AbOK u.1 u.2 (B 26) dc)) (fun u => (mW G h0 a (upd F 35 (nI dc)) (updA (updA B 29 u.2) 31 u.1)))) ([.ref h0] : List Value).toArray s ({ frames := 3, cells := 0, slots := 0, locals := 82 } : Room).cells ({ frames := 3, cells := 0, slots := 0, locals := 82 } : Room).slots A) (F0 m 24 ls []) := by
          intro n_d
          induction n_d with
          | zero => intro d2 da3 ds3 H locs ls hk_d hn_d; omega
          | succ n_d ih_d =>
            intro d2 da3 ds3 H locs ls hk_d hn_d hd1 he hP hD hS hl
            refine lv_iload_n hx hb dX12_findAbove_24 rfl (lv_at hl 0 rfl) ?_
            refine lv_aload_n hx hb dX12_findAbove_25 rfl (lv_at hl 1 rfl) ?_
            refine r_get (v := .int (nI dc)) hx hb hown hq hE hP 35 384 tFX12_35 (by decide) pw_1732 rfl dX12_findAbove_26 ?_
            refine lv_icmp_ge (tgt := 170) hx hb dX12_findAbove_29 (by decide) (fun c3 => ?_) (fun c3 => ?_)
            · have n4 : dc ≤ d2 := (nI_leI (a := dc) (b := d2) (by omega) (by omega)).mp c3
              refine lv_iconst (v := 0) hx hb dX12_findAbove_170 (by decide) ?_
              refine lv_istore_n (lv' := [(1, .int 0), (0, .ref h0)]) hx hb dX12_findAbove_171 rfl hl (by decide) rfl (fun ls hl => ?_)
              have loop_k : ∀ (n_k : Nat) (k5 : Nat) (da5 : Nat → Int32) (H : Heap) (locs : List Loc) (ls : Array Slot), k5 ≤ dc → dc + 1 ≤ k5 + n_k → (dc ≤ d2) → (Wrd da3 da5 dc k5) → va_P G.1 pCl (mW G h0 a (upd F 35 (nI dc)) (updA (updA B 29 ds3) 31 da5)) H → va_D A (mW G h0 a (upd F 35 (nI dc)) (updA (updA B 29 ds3) 31 da5)) → va_S A s.heap H locs → lv_has ls 4 [(1, .int (nI k5)), (0, .ref h0)] → W p l e (headSpec (Cond.code yX12_findAbove cX12_findAbove 4 none :: pw) ({ frames := 3, cells := 0, slots := 0, locals := 82 } : Room)).room s m ([.ref h0] : List Value).toArray below meth c H locs 0 0 (MQ below (pQ G A (fun (v : Option Value) (u : (Nat → Int32) × (Nat → Int32)) => v = none ∧ (AbOK u.1 u.2 (B 26) dc)) (fun u => (mW G h0 a (upd F 35 (nI dc)) (updA (updA B 29 u.2) 31 u.1)))) ([.ref h0] : List Value).toArray s ({ frames := 3, cells := 0, slots := 0, locals := 82 } : Room).cells ({ frames := 3, cells := 0, slots := 0, locals := 82 } : Room).slots A) (F0 m 172 ls []) := by
                intro n_k
                induction n_k with
                | zero => intro k5 da5 H locs ls hk_k hn_k; omega
                | succ n_k ih_k =>
                  intro k5 da5 H locs ls hk_k hn_k hdq hwr hP hD hS hl
                  refine lv_iload_n hx hb dX12_findAbove_172 rfl (lv_at hl 0 rfl) ?_
                  refine lv_aload_n hx hb dX12_findAbove_173 rfl (lv_at hl 1 rfl) ?_
                  refine r_get (v := .int (nI dc)) hx hb hown hq hE hP 35 384 tFX12_35 (by decide) pw_1732 rfl dX12_findAbove_174 ?_
                  refine lv_icmp_ge (tgt := 258) hx hb dX12_findAbove_177 (by decide) (fun c5 => ?_) (fun c5 => ?_)
                  · have n6 : dc ≤ k5 := (nI_leI (a := dc) (b := k5) (by omega) (by omega)).mp c5
                    obtain rfl : dc = d2 := (by omega)
                    obtain rfl : dc = k5 := (by omega)
                    have hz7 : AbOK da5 ds3 (B 26) dc := (AbOK.mk hwr he (by omega))
                    have hP : va_P G.1 pCl (mW G h0 a (upd F 35 (nI dc)) (updA (updA B 29 ds3) 31 da5)) _ := hP
                    have hD : va_D A (mW G h0 a (upd F 35 (nI dc)) (updA (updA B 29 ds3) 31 da5)) := mW_D hD
                    exact W.vret hx hb hr (fun t9 ht9 hW9 => ⟨⟨_, (da5, ds3), rfl, ⟨rfl, hz7⟩, by rw [ht9]; exact hP, hD⟩, hS.F ht9⟩) hS.2.2 dX12_findAbove_258
                  · have n8 : ¬ (dc ≤ k5) := fun h9 => c5 ((nI_leI (a := dc) (b := k5) (by omega) (by omega)).mpr h9)
                    refine lv_iconst (v := 0) hx hb dX12_findAbove_180 (by decide) ?_
                    refine lv_istore_n (lv' := [(2, .int 0), (1, .int (nI k5)), (0, .ref h0)]) hx hb dX12_findAbove_181 rfl hl (by decide) rfl (fun ls hl => ?_)
                    have loop_a : ∀ (n_a : Nat) (a5 : Nat) (da6 : Nat → Int32) (H : Heap) (locs : List Loc) (ls : Array Slot), a5 ≤ dc → dc + 1 ≤ a5 + n_a → (k5 < dc) → (Wst da5 da6 dc k5 a5 0) → va_P G.1 pCl (mW G h0 a (upd F 35 (nI dc)) (updA (updA B 29 ds3) 31 da6)) H → va_D A (mW G h0 a (upd F 35 (nI dc)) (updA (updA B 29 ds3) 31 da6)) → va_S A s.heap H locs → lv_has ls 4 [(2, .int (nI a5)), (1, .int (nI k5)), (0, .ref h0)] → W p l e (headSpec (Cond.code yX12_findAbove cX12_findAbove 4 none :: pw) ({ frames := 3, cells := 0, slots := 0, locals := 82 } : Room)).room s m ([.ref h0] : List Value).toArray below meth c H locs 0 0 (MQ below (pQ G A (fun (v : Option Value) (u : (Nat → Int32) × (Nat → Int32)) => v = none ∧ (AbOK u.1 u.2 (B 26) dc)) (fun u => (mW G h0 a (upd F 35 (nI dc)) (updA (updA B 29 u.2) 31 u.1)))) ([.ref h0] : List Value).toArray s ({ frames := 3, cells := 0, slots := 0, locals := 82 } : Room).cells ({ frames := 3, cells := 0, slots := 0, locals := 82 } : Room).slots A) (F0 m 182 ls []) := by
                      intro n_a
                      induction n_a with
                      | zero => intro a5 da6 H locs ls hk_a hn_a; omega
                      | succ n_a ih_a =>
                        intro a5 da6 H locs ls hk_a hn_a hkd hws hP hD hS hl
                        refine lv_iload_n hx hb dX12_findAbove_182 rfl (lv_at hl 0 rfl) ?_
                        refine lv_aload_n hx hb dX12_findAbove_183 rfl (lv_at hl 2 rfl) ?_
                        refine r_get (v := .int (nI dc)) hx hb hown hq hE hP 35 384 tFX12_35 (by decide) pw_1732 rfl dX12_findAbove_184 ?_
                        refine lv_icmp_ge (tgt := 252) hx hb dX12_findAbove_187 (by decide) (fun c9 => ?_) (fun c9 => ?_)
                        · have n10 : dc ≤ a5 := (nI_leI (a := dc) (b := a5) (by omega) (by omega)).mp c9
                          refine lv_iinc (v := (nI (k5 + 1))) (lv' := [(1, .int (nI (k5 + 1))), (2, .int (nI a5)), (0, .ref h0)]) hx hb dX12_findAbove_252 hl (k := 1) rfl (nI_1 k5) (by decide) rfl (fun ls hl => ?_)
                          refine lv_goto (tgt := 172) hx hb dX12_findAbove_255 (by decide) ?_
                          have hP : va_P G.1 pCl (mW G h0 a (upd F 35 (nI dc)) (updA (updA B 29 ds3) 31 da6)) _ := hP
                          have hD : va_D A (mW G h0 a (upd F 35 (nI dc)) (updA (updA B 29 ds3) 31 da6)) := mW_D hD
                          exact ih_k (k5 + 1) da6 _ _ _ (by omega) (by omega) (by omega) (Wrd.step hwr hws (by omega) (by omega) (by omega)) hP hD hS (lv_sub hl [0, 2] rfl)
                        · have n11 : ¬ (dc ≤ a5) := fun h9 => c9 ((nI_leI (a := dc) (b := a5) (by omega) (by omega)).mpr h9)
                          refine lv_iconst (v := 0) hx hb dX12_findAbove_190 (by decide) ?_
                          refine lv_istore_n (lv' := [(3, .int 0), (2, .int (nI a5)), (1, .int (nI k5)), (0, .ref h0)]) hx hb dX12_findAbove_191 rfl hl (by decide) rfl (fun ls hl => ?_)
                          have loop_b : ∀ (n_b : Nat) (b5 : Nat) (da7 : Nat → Int32) (H : Heap) (locs : List Loc) (ls : Array Slot), b5 ≤ dc → dc + 1 ≤ b5 + n_b → (a5 < dc) → (Wst da5 da7 dc k5 a5 b5) → va_P G.1 pCl (mW G h0 a (upd F 35 (nI dc)) (updA (updA B 29 ds3) 31 da7)) H → va_D A (mW G h0 a (upd F 35 (nI dc)) (updA (updA B 29 ds3) 31 da7)) → va_S A s.heap H locs → lv_has ls 4 [(3, .int (nI b5)), (2, .int (nI a5)), (1, .int (nI k5)), (0, .ref h0)] → W p l e (headSpec (Cond.code yX12_findAbove cX12_findAbove 4 none :: pw) ({ frames := 3, cells := 0, slots := 0, locals := 82 } : Room)).room s m ([.ref h0] : List Value).toArray below meth c H locs 0 0 (MQ below (pQ G A (fun (v : Option Value) (u : (Nat → Int32) × (Nat → Int32)) => v = none ∧ (AbOK u.1 u.2 (B 26) dc)) (fun u => (mW G h0 a (upd F 35 (nI dc)) (updA (updA B 29 u.2) 31 u.1)))) ([.ref h0] : List Value).toArray s ({ frames := 3, cells := 0, slots := 0, locals := 82 } : Room).cells ({ frames := 3, cells := 0, slots := 0, locals := 82 } : Room).slots A) (F0 m 192 ls []) := by
                            intro n_b
                            induction n_b with
                            | zero => intro b5 da7 H locs ls hk_b hn_b; omega
                            | succ n_b ih_b =>
                              intro b5 da7 H locs ls hk_b hn_b had hws hP hD hS hl
                              refine lv_iload_n hx hb dX12_findAbove_192 rfl (lv_at hl 0 rfl) ?_
                              refine lv_aload_n hx hb dX12_findAbove_193 rfl (lv_at hl 3 rfl) ?_
                              refine r_get (v := .int (nI dc)) hx hb hown hq hE hP 35 384 tFX12_35 (by decide) pw_1732 rfl dX12_findAbove_194 ?_
                              refine lv_icmp_ge (tgt := 246) hx hb dX12_findAbove_197 (by decide) (fun c12 => ?_) (fun c12 => ?_)
                              · have n13 : dc ≤ b5 := (nI_leI (a := dc) (b := b5) (by omega) (by omega)).mp c12
                                refine lv_iinc (v := (nI (a5 + 1))) (lv' := [(2, .int (nI (a5 + 1))), (3, .int (nI b5)), (1, .int (nI k5)), (0, .ref h0)]) hx hb dX12_findAbove_246 hl (k := 1) rfl (nI_1 a5) (by decide) rfl (fun ls hl => ?_)
                                refine lv_goto (tgt := 182) hx hb dX12_findAbove_249 (by decide) ?_
                                have hP : va_P G.1 pCl (mW G h0 a (upd F 35 (nI dc)) (updA (updA B 29 ds3) 31 da7)) _ := hP
                                have hD : va_D A (mW G h0 a (upd F 35 (nI dc)) (updA (updA B 29 ds3) 31 da7)) := mW_D hD
                                exact ih_a (a5 + 1) da7 _ _ _ (by omega) (by omega) (by omega) (Wst.next hws (by omega)) hP hD hS (lv_sub hl [0, 2, 3] rfl)
                              · have n14 : ¬ (dc ≤ b5) := fun h9 => c12 ((nI_leI (a := dc) (b := b5) (by omega) (by omega)).mpr h9)
                                refine lv_aload_n hx hb dX12_findAbove_200 rfl (lv_at hl 3 rfl) ?_
                                refine r_get (v := .ref (a 31)) hx hb hown hq hE hP 43 105 tFX12_43 (by decide) pw_1462 rfl dX12_findAbove_201 ?_
                                refine lv_bipush (v := 40) hx hb dX12_findAbove_204 (by decide) ?_
                                refine lv_iload_n hx hb dX12_findAbove_206 rfl (lv_at hl 1 rfl) ?_
                                refine lv_imul hx hb dX12_findAbove_207 ?_
                                refine lv_topi (fun x15 e16 => ?_)
                                obtain rfl : x15 = nI (40 * a5) := e16.trans (nI_mulN (40) (a5))
                                refine lv_iload_n hx hb dX12_findAbove_208 rfl (lv_at hl 2 rfl) ?_
                                refine lv_iadd hx hb dX12_findAbove_209 ?_
                                refine lv_topi (fun x17 e18 => ?_)
                                obtain rfl : x17 = nI ((40 * a5) + k5) := e18.trans (nI_add ((40 * a5)) (k5))
                                refine r_ldz (f := da7) (j := ((40 * a5) + k5)) hx hb hE hP 31 (ma_31 G a _) rfl (by omega) (by decide) dX12_findAbove_210 ?_
                                refine lv_if_eq (tgt := 240) hx hb dX12_findAbove_211 (by decide) (fun c19 => ?_) (fun c19 => ?_)
                                · refine lv_iinc (v := (nI (b5 + 1))) (lv' := [(3, .int (nI (b5 + 1))), (2, .int (nI a5)), (1, .int (nI k5)), (0, .ref h0)]) hx hb dX12_findAbove_240 hl (k := 0) rfl (nI_1 b5) (by decide) rfl (fun ls hl => ?_)
                                  refine lv_goto (tgt := 192) hx hb dX12_findAbove_243 (by decide) ?_
                                  have hP : va_P G.1 pCl (mW G h0 a (upd F 35 (nI dc)) (updA (updA B 29 ds3) 31 da7)) _ := hP
                                  have hD : va_D A (mW G h0 a (upd F 35 (nI dc)) (updA (updA B 29 ds3) 31 da7)) := mW_D hD
                                  exact ih_b (b5 + 1) da7 _ _ _ (by omega) (by omega) (by omega) (Wst.miss hws (fun q => absurd ((Wst.col hws (by omega) (by omega)).mpr q.1) (bitsM.not c19))) hP hD hS (lv_sub hl [0, 1, 2, 3] rfl)
                                · refine lv_aload_n hx hb dX12_findAbove_214 rfl (lv_at hl 3 rfl) ?_
                                  refine r_get (v := .ref (a 31)) hx hb hown hq hE hP 43 105 tFX12_43 (by decide) pw_1462 rfl dX12_findAbove_215 ?_
                                  refine lv_bipush (v := 40) hx hb dX12_findAbove_218 (by decide) ?_
                                  refine lv_iload_n hx hb dX12_findAbove_220 rfl (lv_at hl 2 rfl) ?_
                                  refine lv_imul hx hb dX12_findAbove_221 ?_
                                  refine lv_topi (fun x20 e21 => ?_)
                                  obtain rfl : x20 = nI (40 * k5) := e21.trans (nI_mulN (40) (k5))
                                  refine lv_iload_n hx hb dX12_findAbove_222 rfl (lv_at hl 0 rfl) ?_
                                  refine lv_iadd hx hb dX12_findAbove_223 ?_
                                  refine lv_topi (fun x22 e23 => ?_)
                                  obtain rfl : x22 = nI ((40 * k5) + b5) := e23.trans (nI_add ((40 * k5)) (b5))
                                  refine r_ldz (f := da7) (j := ((40 * k5) + b5)) hx hb hE hP 31 (ma_31 G a _) rfl (by omega) (by decide) dX12_findAbove_224 ?_
                                  refine lv_if_eq (tgt := 240) hx hb dX12_findAbove_225 (by decide) (fun c24 => ?_) (fun c24 => ?_)
                                  · refine lv_iinc (v := (nI (b5 + 1))) (lv' := [(3, .int (nI (b5 + 1))), (2, .int (nI a5)), (1, .int (nI k5)), (0, .ref h0)]) hx hb dX12_findAbove_240 hl (k := 0) rfl (nI_1 b5) (by decide) rfl (fun ls hl => ?_)
                                    refine lv_goto (tgt := 192) hx hb dX12_findAbove_243 (by decide) ?_
                                    have hP : va_P G.1 pCl (mW G h0 a (upd F 35 (nI dc)) (updA (updA B 29 ds3) 31 da7)) _ := hP
                                    have hD : va_D A (mW G h0 a (upd F 35 (nI dc)) (updA (updA B 29 ds3) 31 da7)) := mW_D hD
                                    exact ih_b (b5 + 1) da7 _ _ _ (by omega) (by omega) (by omega) (Wst.miss hws (fun q => absurd ((Wst.line hws (by omega) (by omega)).mpr q.2) (bitsM.not c24))) hP hD hS (lv_sub hl [0, 1, 2, 3] rfl)
                                  · refine lv_aload_n hx hb dX12_findAbove_228 rfl (lv_at hl 3 rfl) ?_
                                    refine r_get (v := .ref (a 31)) hx hb hown hq hE hP 43 105 tFX12_43 (by decide) pw_1462 rfl dX12_findAbove_229 ?_
                                    refine lv_bipush (v := 40) hx hb dX12_findAbove_232 (by decide) ?_
                                    refine lv_iload_n hx hb dX12_findAbove_234 rfl (lv_at hl 1 rfl) ?_
                                    refine lv_imul hx hb dX12_findAbove_235 ?_
                                    refine lv_topi (fun x25 e26 => ?_)
                                    obtain rfl : x25 = nI (40 * a5) := e26.trans (nI_mulN (40) (a5))
                                    refine lv_iload_n hx hb dX12_findAbove_236 rfl (lv_at hl 0 rfl) ?_
                                    refine lv_iadd hx hb dX12_findAbove_237 ?_
                                    refine lv_topi (fun x27 e28 => ?_)
                                    obtain rfl : x27 = nI ((40 * a5) + b5) := e28.trans (nI_add ((40 * a5)) (b5))
                                    refine lv_iconst (v := 1) hx hb dX12_findAbove_238 (by decide) ?_
                                    refine r_stz (f := da7) (j := ((40 * a5) + b5)) hx hb hE hP hD hS 31 (ma_31 G a _) rfl (mas_31 G a _) (by omega) (by decide) dX12_findAbove_239 (fun H locs hP hD hS => ?_)
                                    refine lv_iinc (v := (nI (b5 + 1))) (lv' := [(3, .int (nI (b5 + 1))), (2, .int (nI a5)), (1, .int (nI k5)), (0, .ref h0)]) hx hb dX12_findAbove_240 hl (k := 0) rfl (nI_1 b5) (by decide) rfl (fun ls hl => ?_)
                                    refine lv_goto (tgt := 192) hx hb dX12_findAbove_243 (by decide) ?_
                                    have hP : va_P G.1 pCl (mW G h0 a (upd F 35 (nI dc)) (updA (updA B 29 ds3) 31 (upd da7 ((40 * a5) + b5) 1))) _ := mW_to (F := F) (l1 := [(35, (nI dc))]) (l2 := [(35, (nI dc))]) (V := [(nI dc), (nI dc)]) rfl rfl (show (updA (updA (updA B 29 ds3) 31 da7) 31 (upd da7 ((40 * a5) + b5) 1)) = (updA (updA B 29 ds3) 31 (upd da7 ((40 * a5) + b5) 1)) from updsA_eq2 (F := B) (l1 := [(29, ds3), (31, da7), (31, (upd da7 ((40 * a5) + b5) 1))]) (l2 := [(29, ds3), (31, (upd da7 ((40 * a5) + b5) 1))]) (V := [ds3, (upd da7 ((40 * a5) + b5) 1), (upd da7 ((40 * a5) + b5) 1), ds3, (upd da7 ((40 * a5) + b5) 1)]) rfl rfl) hP
                                    have hD : va_D A (mW G h0 a (upd F 35 (nI dc)) (updA (updA B 29 ds3) 31 (upd da7 ((40 * a5) + b5) 1))) := mW_D hD
                                    exact ih_b (b5 + 1) (upd da7 ((40 * a5) + b5) 1) _ _ _ (by omega) (by omega) (by omega) (Wst.hit hws (by omega) (by omega) (by omega) ((Wst.col hws (by omega) (by omega)).mp (bitsM.one hws.1 (by omega) c19)) ((Wst.line hws (by omega) (by omega)).mp (bitsM.one hws.1 (by omega) c24))) hP hD hS (lv_sub hl [0, 1, 2, 3] rfl)
                          have hP : va_P G.1 pCl (mW G h0 a (upd F 35 (nI dc)) (updA (updA B 29 ds3) 31 da6)) _ := hP
                          have hD : va_D A (mW G h0 a (upd F 35 (nI dc)) (updA (updA B 29 ds3) 31 da6)) := mW_D hD
                          exact loop_b (dc + 1) 0 da6 _ _ _ (by omega) (by omega) (by omega) hws hP hD hS (lv_sub hl [0, 1, 2, 3] rfl)
                    have hP : va_P G.1 pCl (mW G h0 a (upd F 35 (nI dc)) (updA (updA B 29 ds3) 31 da5)) _ := hP
                    have hD : va_D A (mW G h0 a (upd F 35 (nI dc)) (updA (updA B 29 ds3) 31 da5)) := mW_D hD
                    exact loop_a (dc + 1) 0 da5 _ _ _ (by omega) (by omega) (by omega) (Wst.start hwr.1) hP hD hS (lv_sub hl [0, 1, 2] rfl)
              have hP : va_P G.1 pCl (mW G h0 a (upd F 35 (nI dc)) (updA (updA B 29 ds3) 31 da3)) _ := hP
              have hD : va_D A (mW G h0 a (upd F 35 (nI dc)) (updA (updA B 29 ds3) 31 da3)) := mW_D hD
              exact loop_k (dc + 1) 0 da3 _ _ _ (by omega) (by omega) (by omega) (Wrd.start he.1) hP hD hS (lv_sub hl [0, 1] rfl)
            · have n29 : ¬ (dc ≤ d2) := fun h9 => c3 ((nI_leI (a := dc) (b := d2) (by omega) (by omega)).mpr h9)
              refine lv_aload_n hx hb dX12_findAbove_32 rfl (lv_at hl 1 rfl) ?_
              refine r_get (v := .ref (a 31)) hx hb hown hq hE hP 43 105 tFX12_43 (by decide) pw_1462 rfl dX12_findAbove_33 ?_
              refine lv_iload_n hx hb dX12_findAbove_36 rfl (lv_at hl 0 rfl) ?_
              refine lv_iconst (v := 1) hx hb dX12_findAbove_37 (by decide) ?_
              refine r_stz (f := da3) (j := d2) hx hb hE hP hD hS 31 (ma_31 G a _) rfl (mas_31 G a _) (by omega) (by decide) dX12_findAbove_38 (fun H locs hP hD hS => ?_)
              refine lv_aload_n hx hb dX12_findAbove_39 rfl (lv_at hl 1 rfl) ?_
              refine r_get (v := .ref (a 29)) hx hb hown hq hE hP 41 99 tFX12_41 (by decide) pw_1460 rfl dX12_findAbove_40 ?_
              refine lv_iload_n hx hb dX12_findAbove_43 rfl (lv_at hl 0 rfl) ?_
              refine lv_iconst (v := 0) hx hb dX12_findAbove_44 (by decide) ?_
              refine r_sti (f := ds3) (j := d2) hx hb hE hP hD hS 29 (ma_29 G a _) rfl (mas_29 G a _) (by omega) (by decide) dX12_findAbove_45 (fun H locs hP hD hS => ?_)
              refine lv_aload_n hx hb dX12_findAbove_46 rfl (lv_at hl 1 rfl) ?_
              refine r_get (v := .ref (a 27)) hx hb hown hq hE hP 39 93 tFX12_39 (by decide) pw_1458 rfl dX12_findAbove_47 ?_
              refine lv_iload_n hx hb dX12_findAbove_50 rfl (lv_at hl 0 rfl) ?_
              refine r_ldi (f := (B 27)) (j := d2) hx hb hE hP 27 (ma_27 G a _) rfl (by omega) (by decide) dX12_findAbove_51 ?_
              refine lv_istore_n (lv' := [(2, .int ((B 27) d2)), (1, .int (nI d2)), (0, .ref h0)]) hx hb dX12_findAbove_52 rfl hl (by decide) rfl (fun ls hl => ?_)
              have loop_e : ∀ (n_e : Nat) (i2 : Nat) (da4 : Nat → Int32) (ds4 : Nat → Int32) (H : Heap) (locs : List Loc) (ls : Array Slot), i2 ≤ lz → lz + 1 ≤ i2 + n_e → (d2 < dc) → (EdgM da4 ds4 (B 26) dc (d2 + 1)) → (If (i2 = 0) (∀ x : Nat, x < 40 → da4 (40 * x + d2) = 1 → x = 0)) → va_P G.1 pCl (mW G h0 a (upd F 35 (nI dc)) (updA (updA B 29 ds4) 31 da4)) H → va_D A (mW G h0 a (upd F 35 (nI dc)) (updA (updA B 29 ds4) 31 da4)) → va_S A s.heap H locs → lv_has ls 4 [(2, .int (itr (B 23) (B 27 d2) i2)), (1, .int (nI d2)), (0, .ref h0)] → W p l e (headSpec (Cond.code yX12_findAbove cX12_findAbove 4 none :: pw) ({ frames := 3, cells := 0, slots := 0, locals := 82 } : Room)).room s m ([.ref h0] : List Value).toArray below meth c H locs 0 0 (MQ below (pQ G A (fun (v : Option Value) (u : (Nat → Int32) × (Nat → Int32)) => v = none ∧ (AbOK u.1 u.2 (B 26) dc)) (fun u => (mW G h0 a (upd F 35 (nI dc)) (updA (updA B 29 u.2) 31 u.1)))) ([.ref h0] : List Value).toArray s ({ frames := 3, cells := 0, slots := 0, locals := 82 } : Room).cells ({ frames := 3, cells := 0, slots := 0, locals := 82 } : Room).slots A) (F0 m 53 ls []) := by
                intro n_e
                induction n_e with
                | zero => intro i2 da4 ds4 H locs ls hk_e hn_e; omega
                | succ n_e ih_e =>
                  intro i2 da4 ds4 H locs ls hk_e hn_e hd9 he4 hfr hP hD hS hl
                  refine lv_iload_n hx hb dX12_findAbove_53 rfl (lv_at hl 0 rfl) ?_
                  refine lv_iconst (v := (-1)) hx hb dX12_findAbove_54 (by decide) ?_
                  refine lv_icmp_eq (tgt := 116) hx hb dX12_findAbove_55 (by decide) (fun c30 => ?_) (fun c30 => ?_)
                  · refine lv_aload_n hx hb dX12_findAbove_116 rfl (lv_at hl 2 rfl) ?_
                    refine r_get (v := .ref (a 28)) hx hb hown hq hE hP 40 96 tFX12_40 (by decide) pw_1459 rfl dX12_findAbove_117 ?_
                    refine lv_iload_n hx hb dX12_findAbove_120 rfl (lv_at hl 1 rfl) ?_
                    refine r_ldi (f := (B 28)) (j := d2) hx hb hE hP 28 (ma_28 G a _) rfl (by omega) (by decide) dX12_findAbove_121 ?_
                    refine lv_istore_n (lv' := [(2, .int ((B 28) d2)), (1, .int (nI d2)), (0, .ref h0)]) hx hb dX12_findAbove_122 rfl hl (by decide) rfl (fun ls hl => ?_)
                    have loop_m : ∀ (n_m : Nat) (j2 : Nat) (da4 : Nat → Int32) (ds4 : Nat → Int32) (H : Heap) (locs : List Loc) (ls : Array Slot), j2 ≤ lz → lz + 1 ≤ j2 + n_m → (d2 < dc) → (EdgM da4 ds4 (B 26) dc (d2 + 1)) → va_P G.1 pCl (mW G h0 a (upd F 35 (nI dc)) (updA (updA B 29 ds4) 31 da4)) H → va_D A (mW G h0 a (upd F 35 (nI dc)) (updA (updA B 29 ds4) 31 da4)) → va_S A s.heap H locs → lv_has ls 4 [(2, .int (itr (B 23) (B 28 d2) j2)), (1, .int (nI d2)), (0, .ref h0)] → W p l e (headSpec (Cond.code yX12_findAbove cX12_findAbove 4 none :: pw) ({ frames := 3, cells := 0, slots := 0, locals := 82 } : Room)).room s m ([.ref h0] : List Value).toArray below meth c H locs 0 0 (MQ below (pQ G A (fun (v : Option Value) (u : (Nat → Int32) × (Nat → Int32)) => v = none ∧ (AbOK u.1 u.2 (B 26) dc)) (fun u => (mW G h0 a (upd F 35 (nI dc)) (updA (updA B 29 u.2) 31 u.1)))) ([.ref h0] : List Value).toArray s ({ frames := 3, cells := 0, slots := 0, locals := 82 } : Room).cells ({ frames := 3, cells := 0, slots := 0, locals := 82 } : Room).slots A) (F0 m 123 ls []) := by
                      intro n_m
                      induction n_m with
                      | zero => intro j2 da4 ds4 H locs ls hk_m hn_m; omega
                      | succ n_m ih_m =>
                        intro j2 da4 ds4 H locs ls hk_m hn_m hd9 he4 hP hD hS hl
                        refine lv_iload_n hx hb dX12_findAbove_123 rfl (lv_at hl 0 rfl) ?_
                        refine lv_iconst (v := (-1)) hx hb dX12_findAbove_124 (by decide) ?_
                        refine lv_icmp_eq (tgt := 164) hx hb dX12_findAbove_125 (by decide) (fun c31 => ?_) (fun c31 => ?_)
                        · refine lv_iinc (v := (nI (d2 + 1))) (lv' := [(1, .int (nI (d2 + 1))), (2, .int (itr (B 23) (B 28 d2) j2)), (0, .ref h0)]) hx hb dX12_findAbove_164 hl (k := 1) rfl (nI_1 d2) (by decide) rfl (fun ls hl => ?_)
                          refine lv_goto (tgt := 24) hx hb dX12_findAbove_167 (by decide) ?_
                          have hP : va_P G.1 pCl (mW G h0 a (upd F 35 (nI dc)) (updA (updA B 29 ds4) 31 da4)) _ := hP
                          have hD : va_D A (mW G h0 a (upd F 35 (nI dc)) (updA (updA B 29 ds4) 31 da4)) := mW_D hD
                          exact ih_d (d2 + 1) da4 ds4 _ _ _ (by omega) (by omega) (by omega) he4 hP hD hS (lv_sub hl [0, 2] rfl)
                        · obtain ⟨p32, t33, o34, e35, h36, e37, h38, e39, h40, h41⟩ := gdM.get ((hcn d2 (by omega)).2 j2) c31
                          obtain ⟨p44, e45, h42, h43⟩ := (itr_or hlr ((hps.1 d2 (by omega)).2.2.2.2.1) hlz j2).resolve_left c31
                          obtain rfl : p32 = p44 := (nI_eq (by omega) (by omega)).mp (e35.symm.trans e45)
                          have h46 : 7 ≤ d2 := Nat.le_of_not_lt (fun q => c31 (itr_m1 (k := 0) ((hps.1 d2 (by omega)).2.2.2.2.2 q).2.2 j2 (Nat.zero_le _)))
                          rw [e35] at hl
                          refine lv_aload_n hx hb dX12_findAbove_128 rfl (lv_at hl 2 rfl) ?_
                          refine r_get (v := .ref (a 31)) hx hb hown hq hE hP 43 105 tFX12_43 (by decide) pw_1462 rfl dX12_findAbove_129 ?_
                          refine lv_bipush (v := 40) hx hb dX12_findAbove_132 (by decide) ?_
                          refine lv_aload_n hx hb dX12_findAbove_134 rfl (lv_at hl 2 rfl) ?_
                          refine lv_aload_n hx hb dX12_findAbove_135 rfl (lv_at hl 2 rfl) ?_
                          refine r_get (v := .ref (a 5)) hx hb hown hq hE hP 8 25 tFX12_8 (by decide) pw_1435 rfl dX12_findAbove_136 ?_
                          refine lv_aload_n hx hb dX12_findAbove_139 rfl (lv_at hl 2 rfl) ?_
                          refine r_get (v := .ref (a 22)) hx hb hown hq hE hP 32 78 tFX12_32 (by decide) pw_1453 rfl dX12_findAbove_140 ?_
                          refine lv_iload_n hx hb dX12_findAbove_143 rfl (lv_at hl 0 rfl) ?_
                          refine r_ldi (f := (B 22)) (j := p32) hx hb hE hP 22 (ma_22 G a _) rfl (by omega) (by decide) dX12_findAbove_144 ?_
                          refine lv_topi (fun x47 e48 => ?_)
                          obtain rfl : x47 = nI t33 := e48.trans e37
                          refine r_ldi (f := (B 5)) (j := t33) hx hb hE hP 5 (ma_5 G a _) rfl (by omega) (by decide) dX12_findAbove_145 ?_
                          have hP : va_P G.1 pCl (mW G h0 a (upd (upd F 35 (nI dc)) 35 (nI dc)) (updA (updA (updA B 29 ds4) 31 da4) 24 (B 24))) _ := mW_to (F := F) (l1 := [(35, (nI dc))]) (l2 := [(35, (nI dc)), (35, (nI dc))]) (V := [(nI dc), (nI dc), (nI dc)]) rfl rfl (show (updA (updA B 29 ds4) 31 da4) = (updA (updA (updA B 29 ds4) 31 da4) 24 (B 24)) from updsA_eq2 (F := B) (l1 := [(29, ds4), (31, da4)]) (l2 := [(29, ds4), (31, da4), (24, (B 24))]) (V := [ds4, da4, ds4, da4, (B 24)]) rfl rfl) hP
                          have hD : va_D A (mW G h0 a (upd (upd F 35 (nI dc)) 35 (nI dc)) (updA (updA (updA B 29 ds4) 31 da4) 24 (B 24))) := mW_D hD
                          refine pc_V0 (G := G) (As := [.int ((B 5) t33)]) (rest := [.int 40, .ref (a 31)]) hx hb hml hown hq hE hX pX0_al hP hD hS hA hl.1 (R_declOf l G h0 a (upd F 35 (nI dc)) (updA (updA B 29 ds4) 31 da4) ((B 5) t33) dc (B 24) (by omega)) (gV pw_1746 pw_1747 pw_1748 pw_1523 pw_1744) hV_X12_declOf 0 9 rfl rfl rfl rfl (Nat.le_of_ble_eq_true rfl) dX12_findAbove_146 ⟨Nat.le_of_ble_eq_true rfl, Nat.le_of_ble_eq_true rfl⟩ ⟨Nat.le_of_ble_eq_true rfl, Nat.le_of_ble_eq_true rfl⟩ (fun v51 u49 H locs hw50 hP hD hS => ?_)
                          obtain rfl : v51 = some (.int (dOf (B 24) ((B 5) t33) dc 0)) := hw50
                          have hP : va_P G.1 pCl (mW G h0 a (upd F 35 (nI dc)) (updA (updA B 29 ds4) 31 da4)) _ := mW_to (F := F) (l1 := [(35, (nI dc)), (35, (nI dc))]) (l2 := [(35, (nI dc))]) (V := [(nI dc), (nI dc), (nI dc)]) rfl rfl (show (updA (updA (updA B 29 ds4) 31 da4) 24 (B 24)) = (updA (updA B 29 ds4) 31 da4) from updsA_eq2 (F := B) (l1 := [(29, ds4), (31, da4), (24, (B 24))]) (l2 := [(29, ds4), (31, da4)]) (V := [ds4, da4, (B 24), ds4, da4]) rfl rfl) hP
                          have hD : va_D A (mW G h0 a (upd F 35 (nI dc)) (updA (updA B 29 ds4) 31 da4)) := mW_D hD
                          refine W.widen (k := 0) (n := 0) (Nat.le_of_ble_eq_true rfl) (Nat.le_of_ble_eq_true rfl) ?_
                          refine W.eq (g2 := F0 m 149 ls [.int (dOf (B 24) ((B 5) t33) dc 0), .int 40, .ref (a 31)]) rfl ?_
                          refine lv_topi (fun x52 e53 => ?_)
                          obtain rfl : x52 = nI o34 := e53.trans e39
                          refine lv_imul hx hb dX12_findAbove_149 ?_
                          refine lv_topi (fun x54 e55 => ?_)
                          obtain rfl : x54 = nI (40 * o34) := e55.trans (nI_mulN (40) (o34))
                          refine lv_iload_n hx hb dX12_findAbove_150 rfl (lv_at hl 1 rfl) ?_
                          refine lv_iadd hx hb dX12_findAbove_151 ?_
                          refine lv_topi (fun x56 e57 => ?_)
                          obtain rfl : x56 = nI ((40 * o34) + d2) := e57.trans (nI_add ((40 * o34)) (d2))
                          refine lv_iconst (v := 1) hx hb dX12_findAbove_152 (by decide) ?_
                          refine r_stz (f := da4) (j := ((40 * o34) + d2)) hx hb hE hP hD hS 31 (ma_31 G a _) rfl (mas_31 G a _) (by omega) (by decide) dX12_findAbove_153 (fun H locs hP hD hS => ?_)
                          refine lv_aload_n hx hb dX12_findAbove_154 rfl (lv_at hl 2 rfl) ?_
                          refine r_get (v := .ref (a 23)) hx hb hown hq hE hP 33 81 tFX12_33 (by decide) pw_1454 rfl dX12_findAbove_155 ?_
                          refine lv_iload_n hx hb dX12_findAbove_158 rfl (lv_at hl 0 rfl) ?_
                          refine r_ldi (f := (B 23)) (j := p32) hx hb hE hP 23 (ma_23 G a _) rfl (by omega) (by decide) dX12_findAbove_159 ?_
                          refine lv_topi (fun x58 e59 => ?_)
                          obtain rfl : x58 = itr (B 23) (B 28 d2) (j2 + 1) := e59.trans (itr_s e35 (by omega)).symm
                          refine lv_istore_n (lv' := [(2, .int (itr (B 23) (B 28 d2) (j2 + 1))), (1, .int (nI d2)), (0, .ref h0)]) hx hb dX12_findAbove_160 rfl hl (by decide) rfl (fun ls hl => ?_)
                          refine lv_goto (tgt := 123) hx hb dX12_findAbove_161 (by decide) ?_
                          have hP : va_P G.1 pCl (mW G h0 a (upd F 35 (nI dc)) (updA (updA B 29 ds4) 31 (upd da4 ((40 * o34) + d2) 1))) _ := mW_to (F := F) (l1 := [(35, (nI dc))]) (l2 := [(35, (nI dc))]) (V := [(nI dc), (nI dc)]) rfl rfl (show (updA (updA (updA B 29 ds4) 31 da4) 31 (upd da4 ((40 * o34) + d2) 1)) = (updA (updA B 29 ds4) 31 (upd da4 ((40 * o34) + d2) 1)) from updsA_eq2 (F := B) (l1 := [(29, ds4), (31, da4), (31, (upd da4 ((40 * o34) + d2) 1))]) (l2 := [(29, ds4), (31, (upd da4 ((40 * o34) + d2) 1))]) (V := [ds4, (upd da4 ((40 * o34) + d2) 1), (upd da4 ((40 * o34) + d2) 1), ds4, (upd da4 ((40 * o34) + d2) 1)]) rfl rfl) hP
                          have hD : va_D A (mW G h0 a (upd F 35 (nI dc)) (updA (updA B 29 ds4) 31 (upd da4 ((40 * o34) + d2) 1))) := mW_D hD
                          exact ih_m (j2 + 1) (upd da4 ((40 * o34) + d2) 1) ds4 _ _ _ (by omega) (by omega) (by omega) (EdgM.imp he4 (by omega) (by omega) (by omega) (by omega) h41) hP hD hS (lv_sub hl [0, 1, 2] rfl)
                    have hP : va_P G.1 pCl (mW G h0 a (upd F 35 (nI dc)) (updA (updA B 29 ds4) 31 da4)) _ := hP
                    have hD : va_D A (mW G h0 a (upd F 35 (nI dc)) (updA (updA B 29 ds4) 31 da4)) := mW_D hD
                    exact loop_m (lz + 1) 0 da4 ds4 _ _ _ (by omega) (by omega) (by omega) he4 hP hD hS (lv_sub hl [0, 1, 2] rfl)
                  · obtain ⟨p60, t61, o62, e63, h64, e65, h66, e67, h68, h69⟩ := gdM.get ((hcn d2 (by omega)).1 i2) c30
                    obtain ⟨p72, e73, h70, h71⟩ := (itr_or hlr ((hps.1 d2 (by omega)).2.2.2.1) hlz i2).resolve_left c30
                    obtain rfl : p60 = p72 := (nI_eq (by omega) (by omega)).mp (e63.symm.trans e73)
                    have h74 : 7 ≤ d2 := Nat.le_of_not_lt (fun q => c30 (itr_m1 (k := 0) ((hps.1 d2 (by omega)).2.2.2.2.2 q).2.1 i2 (Nat.zero_le _)))
                    rw [e63] at hl
                    refine lv_aload_n hx hb dX12_findAbove_58 rfl (lv_at hl 2 rfl) ?_
                    refine lv_aload_n hx hb dX12_findAbove_59 rfl (lv_at hl 2 rfl) ?_
                    refine r_get (v := .ref (a 5)) hx hb hown hq hE hP 8 25 tFX12_8 (by decide) pw_1435 rfl dX12_findAbove_60 ?_
                    refine lv_aload_n hx hb dX12_findAbove_63 rfl (lv_at hl 2 rfl) ?_
                    refine r_get (v := .ref (a 22)) hx hb hown hq hE hP 32 78 tFX12_32 (by decide) pw_1453 rfl dX12_findAbove_64 ?_
                    refine lv_iload_n hx hb dX12_findAbove_67 rfl (lv_at hl 0 rfl) ?_
                    refine r_ldi (f := (B 22)) (j := p60) hx hb hE hP 22 (ma_22 G a _) rfl (by omega) (by decide) dX12_findAbove_68 ?_
                    refine lv_topi (fun x75 e76 => ?_)
                    obtain rfl : x75 = nI t61 := e76.trans e65
                    refine r_ldi (f := (B 5)) (j := t61) hx hb hE hP 5 (ma_5 G a _) rfl (by omega) (by decide) dX12_findAbove_69 ?_
                    have hP : va_P G.1 pCl (mW G h0 a (upd (upd F 35 (nI dc)) 35 (nI dc)) (updA (updA (updA B 29 ds4) 31 da4) 24 (B 24))) _ := mW_to (F := F) (l1 := [(35, (nI dc))]) (l2 := [(35, (nI dc)), (35, (nI dc))]) (V := [(nI dc), (nI dc), (nI dc)]) rfl rfl (show (updA (updA B 29 ds4) 31 da4) = (updA (updA (updA B 29 ds4) 31 da4) 24 (B 24)) from updsA_eq2 (F := B) (l1 := [(29, ds4), (31, da4)]) (l2 := [(29, ds4), (31, da4), (24, (B 24))]) (V := [ds4, da4, ds4, da4, (B 24)]) rfl rfl) hP
                    have hD : va_D A (mW G h0 a (upd (upd F 35 (nI dc)) 35 (nI dc)) (updA (updA (updA B 29 ds4) 31 da4) 24 (B 24))) := mW_D hD
                    refine pc_V0 (G := G) (As := [.int ((B 5) t61)]) (rest := []) hx hb hml hown hq hE hX pX0_al hP hD hS hA hl.1 (R_declOf l G h0 a (upd F 35 (nI dc)) (updA (updA B 29 ds4) 31 da4) ((B 5) t61) dc (B 24) (by omega)) (gV pw_1746 pw_1747 pw_1748 pw_1523 pw_1744) hV_X12_declOf 0 9 rfl rfl rfl rfl (Nat.le_of_ble_eq_true rfl) dX12_findAbove_70 ⟨Nat.le_of_ble_eq_true rfl, Nat.le_of_ble_eq_true rfl⟩ ⟨Nat.le_of_ble_eq_true rfl, Nat.le_of_ble_eq_true rfl⟩ (fun v79 u77 H locs hw78 hP hD hS => ?_)
                    obtain rfl : v79 = some (.int (dOf (B 24) ((B 5) t61) dc 0)) := hw78
                    have hP : va_P G.1 pCl (mW G h0 a (upd F 35 (nI dc)) (updA (updA B 29 ds4) 31 da4)) _ := mW_to (F := F) (l1 := [(35, (nI dc)), (35, (nI dc))]) (l2 := [(35, (nI dc))]) (V := [(nI dc), (nI dc), (nI dc)]) rfl rfl (show (updA (updA (updA B 29 ds4) 31 da4) 24 (B 24)) = (updA (updA B 29 ds4) 31 da4) from updsA_eq2 (F := B) (l1 := [(29, ds4), (31, da4), (24, (B 24))]) (l2 := [(29, ds4), (31, da4)]) (V := [ds4, da4, (B 24), ds4, da4]) rfl rfl) hP
                    have hD : va_D A (mW G h0 a (upd F 35 (nI dc)) (updA (updA B 29 ds4) 31 da4)) := mW_D hD
                    refine W.widen (k := 0) (n := 0) (Nat.le_of_ble_eq_true rfl) (Nat.le_of_ble_eq_true rfl) ?_
                    refine W.eq (g2 := F0 m 73 ls [.int (dOf (B 24) ((B 5) t61) dc 0)]) rfl ?_
                    refine lv_topi (fun x80 e81 => ?_)
                    obtain rfl : x80 = nI o62 := e81.trans e67
                    refine lv_istore_n (lv' := [(3, .int (nI o62)), (2, .int (nI p60)), (1, .int (nI d2)), (0, .ref h0)]) hx hb dX12_findAbove_73 rfl hl (by decide) rfl (fun ls hl => ?_)
                    refine lv_aload_n hx hb dX12_findAbove_74 rfl (lv_at hl 3 rfl) ?_
                    refine r_get (v := .ref (a 31)) hx hb hown hq hE hP 43 105 tFX12_43 (by decide) pw_1462 rfl dX12_findAbove_75 ?_
                    refine lv_bipush (v := 40) hx hb dX12_findAbove_78 (by decide) ?_
                    refine lv_iload_n hx hb dX12_findAbove_80 rfl (lv_at hl 0 rfl) ?_
                    refine lv_imul hx hb dX12_findAbove_81 ?_
                    refine lv_topi (fun x82 e83 => ?_)
                    obtain rfl : x82 = nI (40 * o62) := e83.trans (nI_mulN (40) (o62))
                    refine lv_iload_n hx hb dX12_findAbove_82 rfl (lv_at hl 2 rfl) ?_
                    refine lv_iadd hx hb dX12_findAbove_83 ?_
                    refine lv_topi (fun x84 e85 => ?_)
                    obtain rfl : x84 = nI ((40 * o62) + d2) := e85.trans (nI_add ((40 * o62)) (d2))
                    refine lv_iconst (v := 1) hx hb dX12_findAbove_84 (by decide) ?_
                    refine r_stz (f := da4) (j := ((40 * o62) + d2)) hx hb hE hP hD hS 31 (ma_31 G a _) rfl (mas_31 G a _) (by omega) (by decide) dX12_findAbove_85 (fun H locs hP hD hS => ?_)
                    refine lv_aload_n hx hb dX12_findAbove_86 rfl (lv_at hl 3 rfl) ?_
                    refine r_get (v := .ref (a 29)) hx hb hown hq hE hP 41 99 tFX12_41 (by decide) pw_1460 rfl dX12_findAbove_87 ?_
                    refine lv_iload_n hx hb dX12_findAbove_90 rfl (lv_at hl 2 rfl) ?_
                    refine lv_aload_n hx hb dX12_findAbove_91 rfl (lv_at hl 3 rfl) ?_
                    refine r_get (v := .ref (a 26)) hx hb hown hq hE hP 38 90 tFX12_38 (by decide) pw_1457 rfl dX12_findAbove_92 ?_
                    refine lv_iload_n hx hb dX12_findAbove_95 rfl (lv_at hl 2 rfl) ?_
                    refine r_ldz (f := (B 26)) (j := d2) hx hb hE hP 26 (ma_26 G a _) rfl (by omega) (by decide) dX12_findAbove_96 ?_
                    refine lv_if_eq (tgt := 104) hx hb dX12_findAbove_97 (by decide) (fun c86 => ?_) (fun c86 => ?_)
                    · have hi87 : i2 = 0 := Sng.one hsn (by omega) c86 hlz c30
                      refine lv_iload_n hx hb dX12_findAbove_104 rfl (lv_at hl 0 rfl) ?_
                      refine r_sti (f := ds4) (j := d2) hx hb hE hP hD hS 29 (ma_29 G a _) rfl (mas_29 G a _) (by omega) (by decide) dX12_findAbove_105 (fun H locs hP hD hS => ?_)
                      refine lv_aload_n hx hb dX12_findAbove_106 rfl (lv_at hl 3 rfl) ?_
                      refine r_get (v := .ref (a 23)) hx hb hown hq hE hP 33 81 tFX12_33 (by decide) pw_1454 rfl dX12_findAbove_107 ?_
                      refine lv_iload_n hx hb dX12_findAbove_110 rfl (lv_at hl 1 rfl) ?_
                      refine r_ldi (f := (B 23)) (j := p60) hx hb hE hP 23 (ma_23 G a _) rfl (by omega) (by decide) dX12_findAbove_111 ?_
                      refine lv_topi (fun x88 e89 => ?_)
                      obtain rfl : x88 = itr (B 23) (B 27 d2) (i2 + 1) := e89.trans (itr_s e63 (by omega)).symm
                      refine lv_istore_n (lv' := [(2, .int (itr (B 23) (B 27 d2) (i2 + 1))), (3, .int (nI o62)), (1, .int (nI d2)), (0, .ref h0)]) hx hb dX12_findAbove_112 rfl hl (by decide) rfl (fun ls hl => ?_)
                      refine lv_goto (tgt := 53) hx hb dX12_findAbove_113 (by decide) ?_
                      have hP : va_P G.1 pCl (mW G h0 a (upd F 35 (nI dc)) (updA (updA B 29 (upd ds4 d2 (nI o62))) 31 (upd da4 ((40 * o62) + d2) 1))) _ := mW_to (F := F) (l1 := [(35, (nI dc))]) (l2 := [(35, (nI dc))]) (V := [(nI dc), (nI dc)]) rfl rfl (show (updA (updA (updA (updA B 29 ds4) 31 da4) 31 (upd da4 ((40 * o62) + d2) 1)) 29 (upd ds4 d2 (nI o62))) = (updA (updA B 29 (upd ds4 d2 (nI o62))) 31 (upd da4 ((40 * o62) + d2) 1)) from updsA_eq2 (F := B) (l1 := [(29, ds4), (31, da4), (31, (upd da4 ((40 * o62) + d2) 1)), (29, (upd ds4 d2 (nI o62)))]) (l2 := [(29, (upd ds4 d2 (nI o62))), (31, (upd da4 ((40 * o62) + d2) 1))]) (V := [(upd ds4 d2 (nI o62)), (upd da4 ((40 * o62) + d2) 1), (upd da4 ((40 * o62) + d2) 1), (upd ds4 d2 (nI o62)), (upd ds4 d2 (nI o62)), (upd da4 ((40 * o62) + d2) 1)]) rfl rfl) hP
                      have hD : va_D A (mW G h0 a (upd F 35 (nI dc)) (updA (updA B 29 (upd ds4 d2 (nI o62))) 31 (upd da4 ((40 * o62) + d2) 1))) := mW_D hD
                      exact ih_e (i2 + 1) (upd da4 ((40 * o62) + d2) 1) (upd ds4 d2 (nI o62)) _ _ _ (by omega) (by omega) (by omega) (EdgM.sup he4 (by omega) (by omega) (by omega) (by omega) c86 (h69.trans c86) (hfr hi87)) (fun e => absurd e (by omega)) hP hD hS (lv_sub hl [0, 2, 3] rfl)
                    · have hi90 : B 26 d2 = 1 := ((hps.1 d2 (by omega)).2.2.1).resolve_left c86
                      refine lv_iconst (v := 0) hx hb dX12_findAbove_100 (by decide) ?_
                      refine lv_goto (tgt := 105) hx hb dX12_findAbove_101 (by decide) ?_
                      refine r_sti (f := ds4) (j := d2) hx hb hE hP hD hS 29 (ma_29 G a _) rfl (mas_29 G a _) (by omega) (by decide) dX12_findAbove_105 (fun H locs hP hD hS => ?_)
                      refine lv_aload_n hx hb dX12_findAbove_106 rfl (lv_at hl 3 rfl) ?_
                      refine r_get (v := .ref (a 23)) hx hb hown hq hE hP 33 81 tFX12_33 (by decide) pw_1454 rfl dX12_findAbove_107 ?_
                      refine lv_iload_n hx hb dX12_findAbove_110 rfl (lv_at hl 1 rfl) ?_
                      refine r_ldi (f := (B 23)) (j := p60) hx hb hE hP 23 (ma_23 G a _) rfl (by omega) (by decide) dX12_findAbove_111 ?_
                      refine lv_topi (fun x91 e92 => ?_)
                      obtain rfl : x91 = itr (B 23) (B 27 d2) (i2 + 1) := e92.trans (itr_s e63 (by omega)).symm
                      refine lv_istore_n (lv' := [(2, .int (itr (B 23) (B 27 d2) (i2 + 1))), (3, .int (nI o62)), (1, .int (nI d2)), (0, .ref h0)]) hx hb dX12_findAbove_112 rfl hl (by decide) rfl (fun ls hl => ?_)
                      refine lv_goto (tgt := 53) hx hb dX12_findAbove_113 (by decide) ?_
                      have hP : va_P G.1 pCl (mW G h0 a (upd F 35 (nI dc)) (updA (updA B 29 (upd ds4 d2 0)) 31 (upd da4 ((40 * o62) + d2) 1))) _ := mW_to (F := F) (l1 := [(35, (nI dc))]) (l2 := [(35, (nI dc))]) (V := [(nI dc), (nI dc)]) rfl rfl (show (updA (updA (updA (updA B 29 ds4) 31 da4) 31 (upd da4 ((40 * o62) + d2) 1)) 29 (upd ds4 d2 0)) = (updA (updA B 29 (upd ds4 d2 0)) 31 (upd da4 ((40 * o62) + d2) 1)) from updsA_eq2 (F := B) (l1 := [(29, ds4), (31, da4), (31, (upd da4 ((40 * o62) + d2) 1)), (29, (upd ds4 d2 0))]) (l2 := [(29, (upd ds4 d2 0)), (31, (upd da4 ((40 * o62) + d2) 1))]) (V := [(upd ds4 d2 0), (upd da4 ((40 * o62) + d2) 1), (upd da4 ((40 * o62) + d2) 1), (upd ds4 d2 0), (upd ds4 d2 0), (upd da4 ((40 * o62) + d2) 1)]) rfl rfl) hP
                      have hD : va_D A (mW G h0 a (upd F 35 (nI dc)) (updA (updA B 29 (upd ds4 d2 0)) 31 (upd da4 ((40 * o62) + d2) 1))) := mW_D hD
                      exact ih_e (i2 + 1) (upd da4 ((40 * o62) + d2) 1) (upd ds4 d2 0) _ _ _ (by omega) (by omega) (by omega) (EdgM.ds0 (EdgM.imp he4 (by omega) (by omega) (by omega) (by omega) (h69.trans hi90)) (by omega) (by omega) hi90) (fun e => absurd e (by omega)) hP hD hS (lv_sub hl [0, 2, 3] rfl)
              have hP : va_P G.1 pCl (mW G h0 a (upd F 35 (nI dc)) (updA (updA B 29 (upd ds3 d2 0)) 31 (upd da3 d2 1))) _ := mW_to (F := F) (l1 := [(35, (nI dc))]) (l2 := [(35, (nI dc))]) (V := [(nI dc), (nI dc)]) rfl rfl (show (updA (updA (updA (updA B 29 ds3) 31 da3) 31 (upd da3 d2 1)) 29 (upd ds3 d2 0)) = (updA (updA B 29 (upd ds3 d2 0)) 31 (upd da3 d2 1)) from updsA_eq2 (F := B) (l1 := [(29, ds3), (31, da3), (31, (upd da3 d2 1)), (29, (upd ds3 d2 0))]) (l2 := [(29, (upd ds3 d2 0)), (31, (upd da3 d2 1))]) (V := [(upd ds3 d2 0), (upd da3 d2 1), (upd da3 d2 1), (upd ds3 d2 0), (upd ds3 d2 0), (upd da3 d2 1)]) rfl rfl) hP
              have hD : va_D A (mW G h0 a (upd F 35 (nI dc)) (updA (updA B 29 (upd ds3 d2 0)) 31 (upd da3 d2 1))) := mW_D hD
              exact loop_e (lz + 1) 0 (upd da3 d2 1) (upd ds3 d2 0) _ _ _ (by omega) (by omega) (by omega) (EdgM.beg he (by omega) (by omega) (by omega)) (fun _ => EdgM.fresh he (by omega) (by omega)) hP hD hS (lv_sub hl [0, 1, 2] rfl)
        have hP : va_P G.1 pCl (mW G h0 a (upd F 35 (nI dc)) (updA (updA B 29 (B 29)) 31 da2)) _ := mW_to (F := F) (l1 := [(35, (nI dc))]) (l2 := [(35, (nI dc))]) (V := [(nI dc), (nI dc)]) rfl rfl (show (updA B 31 da2) = (updA (updA B 29 (B 29)) 31 da2) from updsA_eq2 (F := B) (l1 := [(31, da2)]) (l2 := [(29, (B 29)), (31, da2)]) (V := [da2, (B 29), da2]) rfl rfl) hP
        have hD : va_D A (mW G h0 a (upd F 35 (nI dc)) (updA (updA B 29 (B 29)) 31 da2)) := mW_D hD
        exact loop_d (dc + 1) 1 da2 (B 29) _ _ _ (by omega) (by omega) (by omega) (EdgM.start (fun i h => hz i (by omega))) hP hD hS (lv_sub hl [0, 1] rfl)
      · have n93 : ¬ (1600 ≤ k2) := fun h9 => c1 ((nI_leI (a := 1600) (b := k2) (by omega) (by omega)).mpr h9)
        refine lv_aload_n hx hb dX12_findAbove_9 rfl (lv_at hl 1 rfl) ?_
        refine r_get (v := .ref (a 31)) hx hb hown hq hE hP 43 105 tFX12_43 (by decide) pw_1462 rfl dX12_findAbove_10 ?_
        refine lv_iload_n hx hb dX12_findAbove_13 rfl (lv_at hl 0 rfl) ?_
        refine lv_iconst (v := 0) hx hb dX12_findAbove_14 (by decide) ?_
        refine r_stz (f := da2) (j := k2) hx hb hE hP hD hS 31 (ma_31 G a _) rfl (mas_31 G a _) (by omega) (by decide) dX12_findAbove_15 (fun H locs hP hD hS => ?_)
        refine lv_iinc (v := (nI (k2 + 1))) (lv' := [(1, .int (nI (k2 + 1))), (0, .ref h0)]) hx hb dX12_findAbove_16 hl (k := 0) rfl (nI_1 k2) (by decide) rfl (fun ls hl => ?_)
        refine lv_goto (tgt := 2) hx hb dX12_findAbove_19 (by decide) ?_
        have hP : va_P G.1 pCl (mW G h0 a (upd F 35 (nI dc)) (updA B 31 (upd da2 k2 0))) _ := mW_to (F := F) (l1 := [(35, (nI dc))]) (l2 := [(35, (nI dc))]) (V := [(nI dc), (nI dc)]) rfl rfl (show (updA (updA B 31 da2) 31 (upd da2 k2 0)) = (updA B 31 (upd da2 k2 0)) from updsA_eq2 (F := B) (l1 := [(31, da2), (31, (upd da2 k2 0))]) (l2 := [(31, (upd da2 k2 0))]) (V := [(upd da2 k2 0), (upd da2 k2 0), (upd da2 k2 0)]) rfl rfl) hP
        have hD : va_D A (mW G h0 a (upd F 35 (nI dc)) (updA B 31 (upd da2 k2 0))) := mW_D hD
        exact ih_z (k2 + 1) (upd da2 k2 0) _ _ _ (by omega) (by omega) (all_upd (p := fun _ z => z = 0) hz rfl) hP hD hS (lv_sub hl [0, 1] rfl)
  have hP : va_P G.1 pCl (mW G h0 a (upd F 35 (nI dc)) (updA B 31 (B 31))) _ := mW_to (F := F) (l1 := [(35, (nI dc))]) (l2 := [(35, (nI dc))]) (V := [(nI dc), (nI dc)]) rfl rfl (show B = (updA B 31 (B 31)) from updsA_eq2 (F := B) (l1 := []) (l2 := [(31, (B 31))]) (V := [(B 31)]) rfl rfl) hP
  have hD : va_D A (mW G h0 a (upd F 35 (nI dc)) (updA B 31 (B 31))) := mW_D hD
  exact loop_z (1600 + 1) 0 (B 31) _ _ _ (by omega) (by omega) (fun i h => absurd h (by omega)) hP hD hS (lv_sub hl [0, 1] rfl)

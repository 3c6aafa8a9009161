/-! names: what the rounds leave where no fault is told -/
def Cln (K : PK) (pq : Nat) : Prop := K.2.1 25 pq = 2147483647
/-- the first Decl of a name -/
def FdX (K : PK) (dr nd : Nat) (x r : Int32) : Prop := (r = -1 ∧ ∀ k d : Nat, k < nd → K.2.2.2.2.1 dr k = some d → ¬ K.2.1 16 d = x) ∨ ∃ k d : Nat, k < nd ∧ r = nI k ∧ K.2.2.2.2.1 dr k = some d ∧ K.2.1 16 d = x ∧ ∀ j e : Nat, j < k → K.2.2.2.2.1 dr j = some e → ¬ K.2.1 16 e = x
/-- the name at a token is that of a class or an interface -/
def NmI (K : PK) (dr nd : Nat) (V : Nat → Int32) (sz : Nat) (x b : Int32) : Prop := ∃ k e : Nat, k < nd ∧ FdX K dr nd (tkN V sz (-1) x) (nI k) ∧ K.2.2.2.2.1 dr k = some e ∧ K.2.1 18 e = b
/-- the name at a token is a type's -/
def NmT (K : PK) (dr nd : Nat) (V : Nat → Int32) (sz : Nat) (x b : Int32) : Prop := ∃ k e : Nat, k < nd ∧ FdX K dr nd (tkN V sz (-1) x) (nI k) ∧ K.2.2.2.2.1 dr k = some e ∧ (K.2.1 18 e = 0 ∨ ¬ b = 0)
/-- a Decl's head -/
def HdK (K : PK) (dr nd : Nat) (V : Nat → Int32) (sz d : Nat) : Prop := (¬ K.2.1 19 d = -1 → NmI K dr nd V sz (K.2.1 19 d) 0) ∧ ∀ i : Nat, i < 2147483648 → nI i < K.2.1 21 d → NmI K dr nd V sz (K.2.1 20 d + nI (2 * i)) 1
/-- its methods: the first of that name is itself -/
def OwS (G : pT) (K : PK) (d : Nat) : Prop := ∀ (lm n cp : Nat) (it : Nat → Nat), K.2.2.1 9 d = some lm → LsC G K lm 3 n it cp → ∀ i : Nat, i < n → OwP K d (K.2.1 6 (it i)) (some (it i))
/-- what the first round leaves -/
def Rd1 (G : pT) (K : PK) (dr nd : Nat) (V ro : Nat → Int32) (sz : Nat) : Prop := (∀ k : Nat, 7 ≤ k → k < nd → ∀ d : Nat, K.2.2.2.2.1 dr k = some d → OwS G K d ∧ HdK K dr nd V sz d) ∧ ∀ t : Nat, t < sz → ¬ ro t = 0 → NmT K dr nd V sz (nI t) (if ro t = 1 then 1 else 0)
def RpX (x1 : Int32) (K1 : PK) (pq : Nat) : Prop := ¬ (268435456 : Int32) * x1 = 268435456 * 2147483647 → ¬ Cln K1 pq
section GN0
variable {G : pT} {K K1 K2 : PK} {g : Nat → Nat → Nat} {pq dr nd d k q n sz lm cp : Nat} {it : Nat → Nat} {V : Nat → Int32} {x r b y : Int32} {o : Option Nat} {P : Nat → Prop}
theorem alS (h : ∀ i : Nat, i < n → P i) (k : P n) : ∀ i : Nat, i < n + 1 → P i := fun i hi => by
  by_cases e : i = n
  · rw [e]; exact k
  · exact h i (by omega)
theorem alS7 (h : ∀ i : Nat, 7 ≤ i → i < n → P i) (k : P n) : ∀ i : Nat, 7 ≤ i → i < n + 1 → P i := fun i h7 hi => by
  by_cases e : i = n
  · rw [e]; exact k
  · exact h i h7 (by omega)
theorem alJ {Q R : Nat → Nat → Prop} (h : ∀ j e : Nat, j < n → Q j e → R j e) (k : ∀ e : Nat, Q n e → R n e) : ∀ j e : Nat, j < n + 1 → Q j e → R j e := fun j e hj => by
  by_cases z : j = n
  · rw [z]; exact k e
  · exact h j e (by omega)
theorem odd_neX (hx : ¬ (268435456 : Int32) * x = 268435456 * 2147483647) (h : x + 16 * r = 2147483647) : False := by
  refine hx ?_
  rw [← h, Int32.mul_add, ← Int32.mul_assoc, show (268435456 : Int32) * 16 = 0 by decide, Int32.zero_mul, Int32.add_zero]
theorem min_rep {a b m r x z : Int32} (hz : ¬ (268435456 : Int32) * z = 268435456 * 2147483647) (e1 : m = 16 * r) (e2 : b = z + m) (e3 : x = if b < a then b else a) : ¬ x = 2147483647 := fun h => by
  have hb : ¬ b = 2147483647 := fun w => odd_neX (r := r) hz (by rw [← e1, ← e2]; exact w)
  rw [h] at e3
  by_cases w : b < a
  · rw [if_pos w] at e3; exact hb e3.symm
  · rw [if_neg w] at e3
    rw [← e3] at w
    refine hb (Int32.toInt_inj.mp ?_)
    have z1 : ¬ b.toInt < (2147483647 : Int32).toInt := fun v => w (Int32.lt_iff_toInt_lt.mpr v)
    have z2 : b.toInt < 2 ^ 31 := Int32.toInt_lt b
    have z3 : (2147483647 : Int32).toInt = 2147483647 := by decide
    omega
theorem LgK.fdx (h : LgK K K1 pq) (q : FdX K1 dr nd x r) : FdX K dr nd x r := by
  unfold FdX at q
  rw [LgK.E h] at q
  have hi : ∀ p : Nat, K1.2.1 16 p = K.2.1 16 p := fun p => LgK.I h 16 p (by decide)
  rcases q with ⟨q1, q2⟩ | ⟨k, d, q1, q2, q3, q4, q5⟩
  · exact Or.inl ⟨q1, fun k d hk he => by rw [← hi d]; exact q2 k d hk he⟩
  · exact Or.inr ⟨k, d, q1, q2, q3, by rw [← hi d]; exact q4, fun j e hj he => by rw [← hi e]; exact q5 j e hj he⟩
theorem LgK.owp (h : LgK K K1 pq) (w : OwP K1 q x o) : OwP K q x o := by
  obtain ⟨lq, n, it, a1, a2, a3, a4, a5⟩ := w
  have h6 : ∀ p : Nat, K1.2.1 6 p = K.2.1 6 p := fun p => LgK.I h 6 p (by decide)
  rw [LgK.C h] at a1
  rw [LgK.I h 23 lq (by decide)] at a2
  refine ⟨lq, n, it, a1, a2, a3, fun i hi => ?_, ?_⟩
  · obtain ⟨r, r1, r2⟩ := a4 i hi
    rw [LgK.C h] at r1
    rw [LgK.E h] at r2
    exact ⟨r, r1, r2⟩
  · rcases a5 with ⟨z1, z2⟩ | ⟨i, z1, z2, z3, z4⟩
    · exact Or.inl ⟨z1, fun i hi => by rw [← h6]; exact z2 i hi⟩
    · exact Or.inr ⟨i, z1, z2, by rw [← h6]; exact z3, fun j hj => by rw [← h6]; exact z4 j hj⟩
theorem LgK.nmi (h : LgK K K1 pq) (w : NmI K1 dr nd V sz x b) : NmI K dr nd V sz x b := by
  obtain ⟨k, e, a1, a2, a3, a4⟩ := w
  rw [LgK.E h] at a3
  rw [LgK.I h 18 e (by decide)] at a4
  exact ⟨k, e, a1, h.fdx a2, a3, a4⟩
theorem LgK.nmt (h : LgK K K1 pq) (w : NmT K1 dr nd V sz x b) : NmT K dr nd V sz x b := by
  obtain ⟨k, e, a1, a2, a3, a4⟩ := w
  rw [LgK.E h] at a3
  rw [LgK.I h 18 e (by decide)] at a4
  exact ⟨k, e, a1, h.fdx a2, a3, a4⟩
theorem LgK.hdk (h : LgK K K1 pq) (w : HdK K1 dr nd V sz d) : HdK K dr nd V sz d := by
  obtain ⟨w1, w2⟩ := w
  rw [LgK.I h 19 d (by decide)] at w1
  rw [LgK.I h 20 d (by decide), LgK.I h 21 d (by decide)] at w2
  exact ⟨fun z => h.nmi (w1 z), fun i hi z => h.nmi (w2 i hi z)⟩
theorem LgK.ows (h : LgK K K1 pq) (w : OwS G K1 d) : OwS G K d := fun lm n cp it h1 h2 i hi => by
  have z := w lm n cp it (by rw [LgK.C h]; exact h1) (LgK.ls h h2) i hi
  rw [LgK.I h 6 _ (by decide)] at z
  exact h.owp z
theorem FdX.uniq (hnd : nd ≤ 37) (h : FdX K dr nd x r) (h2 : FdX K dr nd x y) : r = y := by
  rcases h with ⟨a1, a2⟩ | ⟨k, d, a1, a2, a3, a4, a5⟩
  · rcases h2 with ⟨b1, _⟩ | ⟨k2, d2, b1, _, b3, b4, _⟩
    · rw [a1, b1]
    · exact absurd b4 (a2 k2 d2 b1 b3)
  · rcases h2 with ⟨_, b2⟩ | ⟨k2, d2, b1, b2, b3, b4, b5⟩
    · exact absurd a4 (b2 k d a1 a3)
    · rcases Nat.lt_trichotomy k k2 with z | z | z
      · exact absurd a4 (b5 k d z a3)
      · rw [a2, b2, z]
      · exact absurd b4 (a5 k2 d2 z b3)
theorem LsC.same {es n2 cp2 : Nat} {it2 : Nat → Nat} (h : LsC G K q es n it cp) (h2 : LsC G K q es n2 it2 cp2) : n = n2 ∧ ∀ i : Nat, i < n → it i = it2 i := by
  have en : n = n2 := (nI_eq (by have := h.2.2.1; omega) (by have := h2.2.2.1; omega)).mp ((LsC.sz h).symm.trans (LsC.sz h2))
  subst en
  refine ⟨rfl, fun i hi => ?_⟩
  obtain ⟨r1, x1, x2⟩ := LsC.el h i hi
  obtain ⟨r2, y1, y2⟩ := LsC.el h2 i hi
  have er : r1 = r2 := Option.some.inj (x1.symm.trans y1)
  subst er
  exact Option.some.inj (x2.symm.trans y2)
theorem OwS.mk (h9 : K.2.2.1 9 d = some lm) (hl : LsC G K lm 3 n it cp) (h : ∀ i : Nat, i < n → OwP K d (K.2.1 6 (it i)) (some (it i))) : OwS G K d := fun lm2 n2 cp2 it2 e1 e2 i hi => by
  have e : lm = lm2 := Option.some.inj (h9.symm.trans e1)
  subst e
  obtain ⟨en, ei⟩ := hl.same e2
  subst en
  rw [← ei i hi]; exact h i hi
/-- the one that is found is one of the list -/
theorem OwP.mem {m : Nat} (w : OwP K d x (some m)) (h9 : K.2.2.1 9 d = some lm) (hl : LsC G K lm 3 n it cp) : ∃ i : Nat, i < n ∧ it i = m ∧ K.2.1 6 m = x := by
  obtain ⟨lq, n2, it2, a1, a2, a3, a4, a5⟩ := w
  have e : lm = lq := Option.some.inj (h9.symm.trans a1)
  subst e
  have en : n = n2 := (nI_eq (by have := hl.2.2.1; omega) (by omega)).mp ((LsC.sz hl).symm.trans a2)
  subst en
  rcases a5 with ⟨z, _⟩ | ⟨i, z1, z2, z3, _⟩
  · cases z
  · obtain ⟨r1, x1, x2⟩ := LsC.el hl i z1
    obtain ⟨r2, y1, y2⟩ := a4 i z1
    have er : r1 = r2 := Option.some.inj (x1.symm.trans y1)
    subst er
    have ei : it i = it2 i := Option.some.inj (x2.symm.trans y2)
    have em : m = it2 i := Option.some.inj z2
    exact ⟨i, z1, ei.trans em.symm, by rw [em]; exact z3⟩
theorem OwP.no (w : OwP K d x none) (h9 : K.2.2.1 9 d = some lm) (hl : LsC G K lm 3 n it cp) : ∀ i : Nat, i < n → ¬ K.2.1 6 (it i) = x := by
  obtain ⟨lq, n2, it2, a1, a2, a3, a4, a5⟩ := w
  have e : lm = lq := Option.some.inj (h9.symm.trans a1)
  subst e
  have en : n = n2 := (nI_eq (by have := hl.2.2.1; omega) (by omega)).mp ((LsC.sz hl).symm.trans a2)
  subst en
  rcases a5 with ⟨_, z⟩ | ⟨i, _, z2, _, _⟩
  · intro i hi
    obtain ⟨r1, x1, x2⟩ := LsC.el hl i hi
    obtain ⟨r2, y1, y2⟩ := a4 i hi
    have er : r1 = r2 := Option.some.inj (x1.symm.trans y1)
    subst er
    have ei : it i = it2 i := Option.some.inj (x2.symm.trans y2)
    rw [ei]; exact z i hi
  · cases z2
theorem LsC.own {m : Nat} (hl : LsC G K lm 3 n it cp) (h9 : K.2.2.1 9 d = some lm) (w : OwP K d x (some m)) : K.1 m = 3 := by
  obtain ⟨i, h1, h2, _⟩ := w.mem h9 hl
  rw [← h2]; exact hl.T h1
end GN0
/-- one signature -/
def SgE (G : pT) (K : PK) (ty : Nat → Int32) (sz m1 m2 : Nat) : Prop := tkN ty sz 63 (K.2.1 8 m1) = tkN ty sz 63 (K.2.1 8 m2) ∧ ∃ (l1 l2 n c1 c2 : Nat) (i1 i2 : Nat → Nat), K.2.2.1 6 m1 = some l1 ∧ LsC G K l1 1 n i1 c1 ∧ K.2.2.1 6 m2 = some l2 ∧ LsC G K l2 1 n i2 c2 ∧ ∀ i : Nat, i < n → tkN ty sz 63 (K.2.1 2 (i1 i)) = tkN ty sz 63 (K.2.1 2 (i2 i))
/-- some Decl above has it -/
def FfP (K : PK) (dr nd d : Nat) (x : Int32) (m : Nat) : Prop := ∃ k e : Nat, k < nd ∧ K.2.2.2.2.1 dr k = some e ∧ bitL (K.2.2.2.1 d) k ∧ OwP K e x (some m) ∧ ∀ j e2 : Nat, j < k → K.2.2.2.2.1 dr j = some e2 → bitL (K.2.2.2.1 d) j → OwP K e2 x none
def FfQ (K : PK) (dr nd d : Nat) (x : Int32) (o : Option Nat) : Prop := ∀ m : Nat, o = some m → K.1 m = 3 ∧ FfP K dr nd d x m
def NeQ (K : PK) (x : Int32) (d : Nat) (o : Option Nat) : Prop := ∀ m : Nat, o = some m → K.1 m = 3 ∧ NeP K x 101 d m
/-- a method from above, held against d's -/
def JmP (G : pT) (K : PK) (dr nd : Nat) (ty : Nat → Int32) (sz d0 d1 m : Nat) : Prop := (∃ o : Nat, (OwP K d0 (K.2.1 6 m) (some o) ∨ (OwP K d0 (K.2.1 6 m) none ∧ FfP K dr nd d0 (K.2.1 6 m) o)) ∧ SgE G K ty sz m o) ∧ (¬ K.2.1 18 d1 = 0 → K.2.1 18 d0 = 0 → ∃ o : Nat, NeP K (K.2.1 6 m) 101 d0 o)
def JmA (G : pT) (K : PK) (dr nd : Nat) (ty : Nat → Int32) (sz d0 d1 : Nat) : Prop := ∀ (lm n cp : Nat) (it : Nat → Nat), K.2.2.1 9 d1 = some lm → LsC G K lm 3 n it cp → ∀ i : Nat, i < n → JmP G K dr nd ty sz d0 d1 (it i)
def MnP (G : pT) (K : PK) (dr nd : Nat) (ty : Nat → Int32) (sz : Nat) : Prop := ∃ k d m : Nat, k < nd ∧ FdX K dr nd 36 (nI k) ∧ K.2.2.2.2.1 dr k = some d ∧ K.2.1 18 d = 0 ∧ NeP K 37 101 d m ∧ tkN ty sz 63 (K.2.1 8 m) = 60 ∧ ∃ (lp cp : Nat) (it : Nat → Nat), K.2.2.1 6 m = some lp ∧ LsC G K lp 1 0 it cp
/-- what the third round leaves -/
def Rd3 (G : pT) (K : PK) (dr nd : Nat) (ty : Nat → Int32) (sz : Nat) : Prop := (∀ k : Nat, 7 ≤ k → k < nd → ∀ d : Nat, K.2.2.2.2.1 dr k = some d → ∀ u e : Nat, u < nd → K.2.2.2.2.1 dr u = some e → bitL (K.2.2.2.1 d) u → JmA G K dr nd ty sz d e) ∧ MnP G K dr nd ty sz
/-- the types of the tokens -/
def TyO (K : PK) (dr nd : Nat) (V ro kd : Nat → Int32) (sz : Nat) (ty : Nat → Int32) (t : Nat) : Prop := ∃ r : Int32, (¬ ro t = 0 → FdX K dr nd (tkN V sz (-1) (nI t)) r) ∧ (ro t = 0 → (r = 60 ∧ kd t = 13) ∨ (r = 61 ∧ kd t = 1) ∨ (r = 63 ∧ ¬ kd t = 13 ∧ ¬ kd t = 1)) ∧ (ty t = r ∨ (ty t = 64 + r ∧ ¬ r = 63 ∧ tkN kd sz 67 (nI (t + 1)) = 36 ∧ tkN kd sz 67 (nI (t + 2)) = 37))
def TyX (K : PK) (dr nd : Nat) (V ro kd : Nat → Int32) (sz : Nat) (ty : Nat → Int32) : Prop := ∀ t : Nat, t < sz → TyO K dr nd V ro kd sz ty t
section GN1
variable {G : pT} {K K1 K2 : PK} {g : Nat → Nat → Nat} {pq dr nd d d0 d1 k q n sz lm cp m m1 m2 t : Nat} {it : Nat → Nat} {V ro kd ty f : Nat → Int32} {x r b y v : Int32} {o : Option Nat}
theorem LgK.owp6 (h : LgK K K1 pq) (w : OwP K1 d (K1.2.1 6 m) o) : OwP K d (K.2.1 6 m) o := by
  rw [LgK.I h 6 m (by decide)] at w
  exact h.owp w
theorem LgK.sge (h : LgK K K1 pq) (w : SgE G K1 ty sz m1 m2) : SgE G K ty sz m1 m2 := by
  obtain ⟨a1, l1, l2, n, c1, c2, i1, i2, b1, b2, b3, b4, b5⟩ := w
  have h2 : LgK K1 K pq := by
    obtain ⟨v, e⟩ := h
    exact ⟨K.2.1 25 pq, by rw [e, kI_kI]; exact kI_self.symm⟩
  rw [LgK.I h 8 m1 (by decide), LgK.I h 8 m2 (by decide)] at a1
  rw [LgK.C h] at b1 b3
  refine ⟨a1, l1, l2, n, c1, c2, i1, i2, b1, LgK.ls h2 b2, b3, LgK.ls h2 b4, fun i hi => ?_⟩
  have z := b5 i hi
  rw [LgK.I h 2 _ (by decide), LgK.I h 2 _ (by decide)] at z
  exact z
theorem LgK.ffp6 (h : LgK K K1 pq) (w : FfP K1 dr nd d (K1.2.1 6 m1) m) : FfP K dr nd d (K.2.1 6 m1) m := by
  obtain ⟨k, e, a1, a2, a3, a4, a5⟩ := w
  rw [LgK.E h] at a2 a5
  rw [LgK.L h] at a3 a5
  exact ⟨k, e, a1, a2, a3, h.owp6 a4, fun j e2 h1 h2 h3 => h.owp6 (a5 j e2 h1 h2 h3)⟩
theorem LgK.nep (h : LgK K K1 pq) : ∀ {n d : Nat}, NeP K1 x n d m → NeP K x n d m
  | 0, _, w => w.elim
  | n + 1, d, w => by
    rcases w with w | ⟨w1, p, w2, w3⟩
    · exact Or.inl (h.owp w)
    · rw [LgK.C h] at w2
      exact Or.inr ⟨h.owp w1, p, w2, LgK.nep h w3⟩
theorem LgK.nep6 (h : LgK K K1 pq) (w : NeP K1 (K1.2.1 6 m1) n d m) : NeP K (K.2.1 6 m1) n d m := by
  rw [LgK.I h 6 m1 (by decide)] at w
  exact h.nep w
theorem LgK.jma (h : LgK K K1 pq) (w : JmA G K1 dr nd ty sz d0 d1) : JmA G K dr nd ty sz d0 d1 := fun lm n cp it e1 e2 i hi => by
  obtain ⟨⟨o, z1, z2⟩, z3⟩ := w lm n cp it (by rw [LgK.C h]; exact e1) (LgK.ls h e2) i hi
  rw [LgK.I h 18 d1 (by decide), LgK.I h 18 d0 (by decide)] at z3
  refine ⟨⟨o, ?_, h.sge z2⟩, fun a b => ?_⟩
  · rcases z1 with z1 | ⟨z1, z4⟩
    · exact Or.inl (h.owp6 z1)
    · exact Or.inr ⟨h.owp6 z1, h.ffp6 z4⟩
  · obtain ⟨o2, z5⟩ := z3 a b
    exact ⟨o2, h.nep6 z5⟩
theorem JmA.mk (h9 : K.2.2.1 9 d1 = some lm) (hl : LsC G K lm 3 n it cp) (h : ∀ i : Nat, i < n → JmP G K dr nd ty sz d0 d1 (it i)) : JmA G K dr nd ty sz d0 d1 := fun lm2 n2 cp2 it2 e1 e2 i hi => by
  have e : lm = lm2 := Option.some.inj (h9.symm.trans e1)
  subst e
  obtain ⟨en, ei⟩ := hl.same e2
  subst en
  rw [← ei i hi]; exact h i hi
/-- one type more -/
theorem TyX.up {i : Nat} (h : ∀ t : Nat, t < i → TyO K dr nd V ro kd sz f t) (h1 : ¬ ro i = 0 → FdX K dr nd (tkN V sz (-1) (nI i)) r) (h2 : ro i = 0 → (r = 60 ∧ kd i = 13) ∨ (r = 61 ∧ kd i = 1) ∨ (r = 63 ∧ ¬ kd i = 13 ∧ ¬ kd i = 1)) (h3 : v = r ∨ (v = 64 + r ∧ ¬ r = 63 ∧ tkN kd sz 67 (nI (i + 1)) = 36 ∧ tkN kd sz 67 (nI (i + 2)) = 37)) : ∀ t : Nat, t < i + 1 → TyO K dr nd V ro kd sz (upd f i v) t := fun t ht => by
  by_cases e : t = i
  · subst e
    exact ⟨r, h1, h2, by rw [upd_eq]; exact h3⟩
  · obtain ⟨r9, a1, a2, a3⟩ := h t (by omega)
    exact ⟨r9, a1, a2, by rw [show upd f i v t = f t from if_neg e]; exact a3⟩
end GN1

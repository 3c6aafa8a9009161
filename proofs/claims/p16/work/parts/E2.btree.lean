/-- which parts a node of a kind has -/
def Shp (k : Int32) (C : Nat → Option Nat) : Prop := ((k = 7 ∨ k = 9 ∨ k = 12 ∨ k = 13 ∨ k = 15 ∨ k = 16 ∨ k = 19 ∨ k = 24 ∨ k = 31 ∨ k = 32 ∨ k = 33 ∨ k = 35) → ¬ C 0 = none) ∧ ((k = 14 ∨ k = 17 ∨ k = 18 ∨ k = 23 ∨ k = 25) → ¬ C 0 = none ∧ ¬ C 1 = none) ∧ (k = 20 → ¬ C 0 = none ∧ ¬ C 1 = none ∧ ¬ C 2 = none) ∧ (k = 26 → ¬ C 1 = none ∧ ¬ C 3 = none) ∧ (k = 27 → ¬ C 3 = none)
theorem Shp.of {k : Int32} {C C' : Nat → Option Nat} (h : ∀ f : Nat, f ≤ 3 → C' f = C f) (g : Shp k C) : Shp k C' := by
  unfold Shp at g ⊢
  rw [h 0 (by omega), h 1 (by omega), h 2 (by omega), h 3 (by omega)]; exact g
/-- the part that is a list -/
def Lsf (k : Int32) (f : Nat) : Prop := (k = 21 ∧ f = 0) ∨ ((k = 10 ∨ k = 11 ∨ k = 32) ∧ f = 1)
/-- a rank: first token, the token behind the last, three borders between, what it needs -/
def rS (k : Nat) : Nat := k / 100000000000000000000
def rE (k : Nat) : Nat := k / 10000000000000000 % 10000
def rM (k : Nat) : Nat := k / 1000000000000 % 10000
def rN (k : Nat) : Nat := k / 100000000 % 10000
def rX (k : Nat) : Nat := k / 10000 % 10000
def rD (k : Nat) : Nat := k % 10000
def rK (s e m n x d : Nat) : Nat := s * 100000000000000000000 + e * 10000000000000000 + m * 1000000000000 + n * 100000000 + x * 10000 + d
section RK
variable {s e m n x d : Nat}
theorem rS_rK (h : e ≤ 6000 ∧ m ≤ 6000 ∧ n ≤ 6000 ∧ x ≤ 6000 ∧ d ≤ 6000) : rS (rK s e m n x d) = s := by unfold rS rK; omega
theorem rE_rK (h : e ≤ 6000 ∧ m ≤ 6000 ∧ n ≤ 6000 ∧ x ≤ 6000 ∧ d ≤ 6000) : rE (rK s e m n x d) = e := by unfold rE rK; omega
theorem rM_rK (h : e ≤ 6000 ∧ m ≤ 6000 ∧ n ≤ 6000 ∧ x ≤ 6000 ∧ d ≤ 6000) : rM (rK s e m n x d) = m := by unfold rM rK; omega
theorem rN_rK (h : e ≤ 6000 ∧ m ≤ 6000 ∧ n ≤ 6000 ∧ x ≤ 6000 ∧ d ≤ 6000) : rN (rK s e m n x d) = n := by unfold rN rK; omega
theorem rX_rK (h : e ≤ 6000 ∧ m ≤ 6000 ∧ n ≤ 6000 ∧ x ≤ 6000 ∧ d ≤ 6000) : rX (rK s e m n x d) = x := by unfold rX rK; omega
theorem rD_rK (h : e ≤ 6000 ∧ m ≤ 6000 ∧ n ≤ 6000 ∧ x ≤ 6000 ∧ d ≤ 6000) : rD (rK s e m n x d) = d := by unfold rD rK; omega
end RK
theorem rS_lt {x y : Nat} (h : rS x < rS y) : x < y := by unfold rS at h; omega
def Itv (k : Nat) : Prop := k ≤ 1000000000000000000000000 ∧ rS k ≤ rM k ∧ rM k ≤ rN k ∧ rN k ≤ rE k ∧ rS k + 1 ≤ rE k
theorem Itv.of {s e m n x d : Nat} (h : s ≤ m ∧ m ≤ n ∧ n ≤ e ∧ s + 1 ≤ e ∧ e ≤ 6000 ∧ x ≤ 6000 ∧ d ≤ 6000) : Itv (rK s e m n x d) := by
  have a : e ≤ 6000 ∧ m ≤ 6000 ∧ n ≤ 6000 ∧ x ≤ 6000 ∧ d ≤ 6000 := by omega
  refine ⟨by unfold rK; omega, ?_⟩
  rw [rS_rK a, rM_rK a, rN_rK a, rE_rK a]; omega
/-- a rank by its numbers -/
theorem rk_ex {s e m n x d : Nat} (h : s ≤ m ∧ m ≤ n ∧ n ≤ e ∧ s + 1 ≤ e ∧ e ≤ 6000 ∧ x ≤ 6000 ∧ d ≤ 6000) : ∃ z : Nat, Itv z ∧ rS z = s ∧ rE z = e ∧ rM z = m ∧ rN z = n ∧ rX z = x ∧ rD z = d := by
  have a : e ≤ 6000 ∧ m ≤ 6000 ∧ n ≤ 6000 ∧ x ≤ 6000 ∧ d ≤ 6000 := by omega
  exact ⟨rK s e m n x d, Itv.of h, rS_rK a, rE_rK a, rM_rK a, rN_rK a, rX_rK a, rD_rK a⟩
/-- one of a list lies between its owner's borders -/
def Owi (k : Int32) (ko kq : Nat) : Prop := ((k = 21) → rS ko + 1 ≤ rS kq ∧ rE kq + 1 ≤ rE ko ∧ rD kq ≤ rD ko) ∧ ((k = 32) → rM ko ≤ rS kq ∧ rE kq ≤ rN ko ∧ rD kq ≤ rD ko) ∧ ((k = 10 ∨ k = 11) → rM ko ≤ rS kq ∧ rS kq + 1 ≤ rE kq ∧ rE kq + 1 ≤ rE ko ∧ 1 ≤ rD kq ∧ rD kq + 9 ≤ rD ko)
/-- a node by its own kind -/
def IvK (k : Int32) (kq : Nat) : Prop := ((k = 10 ∨ k = 11) → rS kq + 1 ≤ rM kq ∧ rM kq + 1 ≤ rE kq) ∧ ((k = 21 ∨ k = 22 ∨ k = 28 ∨ k = 29 ∨ k = 30) → rS kq + 2 ≤ rE kq) ∧ ((k = 26 ∨ k = 27) → rS kq + 2 ≤ rM kq ∧ rM kq ≤ rX kq ∧ rX kq + 1 ≤ rN kq)
/-- a part lies between borders -/
def Kiv (k : Int32) (f kq kx : Nat) (c : Int32) : Prop := ((k = 7 ∨ k = 9 ∨ k = 12 ∨ k = 13 ∨ k = 15 ∨ k = 16 ∨ k = 19) → f = 0 → rS kq ≤ rS kx ∧ rS kx + 1 ≤ rE kx ∧ rE kx ≤ rE kq ∧ rE kx + rS kq + 1 ≤ rE kq + rS kx ∧ 1 ≤ rD kx ∧ rD kx ≤ rD kq) ∧ ((k = 14 ∨ k = 17 ∨ k = 18) → f = 0 → rS kq ≤ rS kx ∧ rS kx + 1 ≤ rE kx ∧ rE kx ≤ rM kq ∧ 1 ≤ rD kx ∧ rD kx ≤ rD kq) ∧ ((k = 14 ∨ k = 17 ∨ k = 18) → f = 1 → rM kq + 1 ≤ rS kx ∧ rS kx + 1 ≤ rE kx ∧ rE kx ≤ rE kq ∧ 1 ≤ rD kx ∧ rD kx + 1 ≤ rD kq) ∧ ((k = 20) → f = 0 → rS kq ≤ rS kx ∧ rS kx + 1 ≤ rE kx ∧ rE kx ≤ rM kq ∧ 1 ≤ rD kx ∧ rD kx ≤ rD kq) ∧ ((k = 20) → f = 1 → rM kq + 1 ≤ rS kx ∧ rS kx + 1 ≤ rE kx ∧ rE kx ≤ rN kq ∧ 1 ≤ rD kx ∧ rD kx ≤ rD kq) ∧ ((k = 20) → f = 2 → rN kq + 1 ≤ rS kx ∧ rS kx + 1 ≤ rE kx ∧ rE kx ≤ rE kq ∧ 1 ≤ rD kx ∧ rD kx ≤ rD kq) ∧ ((k = 10 ∨ k = 11) → f = 0 → rS kq ≤ rS kx ∧ rS kx + 1 ≤ rE kx ∧ rE kx + 1 ≤ rM kq ∧ 1 ≤ rD kx ∧ rD kx ≤ rD kq) ∧ ((k = 22 ∨ k = 28 ∨ k = 31 ∨ k = 33) → f = 0 → rS kq ≤ rS kx ∧ rS kx + 1 ≤ rE kx ∧ rE kx ≤ rE kq ∧ rE kx + rS kq + 2 ≤ rE kq + rS kx ∧ 1 ≤ rD kx ∧ rD kx ≤ 243) ∧ ((k = 23) → f = 0 → rS kq ≤ rS kx ∧ rS kx + 1 ≤ rE kx ∧ rE kx ≤ rM kq ∧ 1 ≤ rD kx ∧ rD kx ≤ 243) ∧ ((k = 23) → f = 1 → rM kq + 1 ≤ rS kx ∧ rS kx + 1 ≤ rE kx ∧ rE kx ≤ rE kq ∧ 1 ≤ rD kx ∧ rD kx ≤ 243) ∧ ((k = 24) → f = 0 → (c = 10 ∨ c = 11) ∧ rS kq ≤ rS kx ∧ rS kx + 1 ≤ rE kx ∧ rE kx ≤ rE kq ∧ 1 ≤ rD kx ∧ rD kx ≤ 243) ∧ ((k = 25) → f = 0 → rS kq + 2 ≤ rS kx ∧ rS kx + 1 ≤ rE kx ∧ rE kx + 1 ≤ rM kq ∧ 1 ≤ rD kx ∧ rD kx ≤ 243) ∧ ((k = 25) → f = 1 → (¬ c = 22) ∧ rM kq ≤ rS kx ∧ rS kx ≤ rE kx ∧ rE kx ≤ rN kq ∧ rD kx ≤ rD kq) ∧ ((k = 25) → f = 2 → (¬ c = 22) ∧ rN kq + 1 ≤ rS kx ∧ rS kx ≤ rE kx ∧ rE kx ≤ rE kq ∧ rD kx ≤ rD kq) ∧ ((k = 26 ∨ k = 27) → f = 0 → (c = 22 ∨ c = 23) ∧ rS kq + 2 ≤ rS kx ∧ rS kx ≤ rE kx ∧ rE kx + 1 ≤ rM kq) ∧ ((k = 26 ∨ k = 27) → f = 1 → rM kq ≤ rS kx ∧ rS kx + 1 ≤ rE kx ∧ rE kx ≤ rX kq ∧ 1 ≤ rD kx ∧ rD kx ≤ 243) ∧ ((k = 26 ∨ k = 27) → f = 2 → (c = 23 ∨ c = 24) ∧ rX kq + 1 ≤ rS kx ∧ rS kx ≤ rE kx ∧ rE kx + 1 ≤ rN kq) ∧ ((k = 26 ∨ k = 27) → f = 3 → (¬ c = 22) ∧ rN kq ≤ rS kx ∧ rS kx ≤ rE kx ∧ rE kx ≤ rE kq ∧ rD kx ≤ rD kq) ∧ ((k = 32) → f = 0 → (c = 21) ∧ rS kq + 1 ≤ rS kx ∧ rS kx + 2 ≤ rE kx ∧ rE kx ≤ rM kq ∧ rD kx ≤ rD kq) ∧ ((k = 32) → f = 2 → (c = 21) ∧ rN kq + 1 ≤ rS kx ∧ rS kx + 2 ≤ rE kx ∧ rE kx ≤ rE kq ∧ rD kx + 2 ≤ rD kq) ∧ ((k = 35) → f = 0 → (c = 21) ∧ rS kq + 5 ≤ rS kx ∧ rS kx + 2 ≤ rE kx ∧ rE kx ≤ rE kq ∧ rD kx ≤ rD kq)
/-- the kinds of parts -/
def Kch (k : Int32) (f : Nat) (c : Int32) (kq kx : Nat) : Prop := (k = 32 → ¬ f = 1 → c = 21) ∧ (k = 35 → c = 21) ∧ (k = 23 → f = 0 → c = 5 ∨ c = 12 ∨ c = 14) ∧ Kiv k f kq kx c
theorem IvK.no {k : Int32} {kq : Nat} (h : ¬ (k = 10 ∨ k = 11) ∧ ¬ (k = 21 ∨ k = 22 ∨ k = 28 ∨ k = 29 ∨ k = 30) ∧ ¬ (k = 26 ∨ k = 27)) : IvK k kq := ⟨fun z => absurd z h.1, fun z => absurd z h.2.1, fun z => absurd z h.2.2⟩
/-- a node that is done: its parts are done and lower, the next one of its list is done and comes later -/
def NdO (K : PK) (g : Nat → Nat → Nat) (q : Nat) : Prop := Shp (K.2.1 0 q) (fun f => K.2.2.1 f q) ∧ (∀ f x : Nat, f ≤ 3 → K.2.2.1 f q = some x → K.1 x = 1 ∧ 1 ≤ g 0 x ∧ g 0 x < g 0 q ∧ (Lsf (K.2.1 0 q) f → g 1 x = q + 1) ∧ Kch (K.2.1 0 q) f (K.2.1 0 x) (g 2 q) (g 2 x)) ∧ (∀ x : Nat, K.2.2.1 4 q = some x → K.1 x = 1 ∧ 1 ≤ g 0 x ∧ g 1 x = g 1 q ∧ g 2 q < g 2 x ∧ ¬ g 1 q = 0 ∧ rE (g 2 q) ≤ rS (g 2 x)) ∧ (Itv (g 2 q) ∧ IvK (K.2.1 0 q) (g 2 q)) ∧ ∀ o : Nat, g 1 q = o + 1 → K.1 o = 1 ∧ (1 ≤ g 0 o → g 0 q < g 0 o) ∧ (K.2.1 0 o = 32 → K.2.1 0 q = 35) ∧ (1 ≤ g 0 o → Owi (K.2.1 0 o) (g 2 o) (g 2 q))
def WN (K : PK) (g : Nat → Nat → Nat) : Prop := ∀ q : Nat, K.1 q = 1 → 1 ≤ g 0 q → NdO K g q
def gset (g : Nat → Nat → Nat) (q x y z : Nat) : Nat → Nat → Nat := fun i p => if p = q then (if i = 0 then x else if i = 1 then y else z) else g i p
section BT
variable {K K1 K2 : PK} {g g1 g2 : Nat → Nat → Nat} {q r x O k L : Nat}
theorem gset_ne {i p x y z : Nat} (h : ¬ p = q) : gset g q x y z i p = g i p := if_neg h
theorem gset_0 {x y z : Nat} : gset g q x y z 0 q = x := by
  unfold gset
  rw [if_pos rfl, if_pos rfl]
theorem gset_1 {x y z : Nat} : gset g q x y z 1 q = y := by
  unfold gset
  rw [if_pos rfl, if_neg (by decide), if_pos rfl]
theorem gset_2 {x y z : Nat} : gset g q x y z 2 q = z := by
  unfold gset
  rw [if_pos rfl, if_neg (by decide), if_neg (by decide)]
/-- what stood stands, what is told of it too -/
def XtG (K K1 : PK) (g g1 : Nat → Nat → Nat) : Prop := Ext K K1 ∧ ∀ p : Nat, ¬ K.1 p = 0 → ∀ i : Nat, g1 i p = g i p
theorem Ext.trans (h : Ext K K1) (h2 : Ext K1 K2) : Ext K K2 := fun p hp => by
  have a := h p hp
  exact a.trans (h2 p (by rw [a.1]; exact hp))
theorem XtG.trans (h : XtG K K1 g g1) (h2 : XtG K1 K2 g1 g2) : XtG K K2 g g2 := ⟨h.1.trans h2.1, fun p hp i => (h2.2 p (by rw [(h.1 p hp).1]; exact hp) i).trans (h.2 p hp i)⟩
theorem XtG.rfl : XtG K K g g := ⟨fun p _ => ⟨Eq.refl _, fun _ => Eq.refl _, fun _ => Eq.refl _, Eq.refl _, Eq.refl _, Eq.refl _⟩, fun _ _ _ => Eq.refl _⟩
/-- a new node, not done yet -/
theorem WN.new (h : WN K g) (h0 : K.1 q = 0) (hx : Ext K K1) (hn : ∀ p : Nat, ¬ p = q → K1.1 p = K.1 p) : WN K1 (gset g q 0 0 0) := fun p hp hl => by
  by_cases e : p = q
  · subst e; rw [gset_0] at hl; omega
  · rw [gset_ne e] at hl
    have hp0 : K.1 p = 1 := (hn p e).symm.trans hp
    obtain ⟨a1, a2, a3, a4, a5⟩ := h p hp0 hl
    obtain ⟨b1, b2, b3, -, -, -⟩ := hx p (by rw [hp0]; decide)
    have hc : ∀ y : Nat, K.1 y = 1 → ¬ y = q := fun y hy z => by rw [z, h0] at hy; exact absurd hy (by decide)
    refine ⟨?_, fun f y hf hy => ?_, fun y hy => ?_, ?_, fun o ho => ?_⟩
    · rw [b2]; simp only [b3]; exact a1
    · rw [b3] at hy
      obtain ⟨c1, c2, c3, c4⟩ := a2 f y hf hy
      have hy1 := hc y c1
      rw [gset_ne hy1, gset_ne hy1, gset_ne hy1, gset_ne e, gset_ne e, b2, (hx y (by rw [c1]; decide)).2.1]
      exact ⟨(hn y hy1).trans c1, c2, c3, c4⟩
    · rw [b3] at hy
      obtain ⟨c1, c2, c3, c4⟩ := a3 y hy
      have hy1 := hc y c1
      rw [gset_ne hy1, gset_ne hy1, gset_ne hy1, gset_ne e, gset_ne e]
      exact ⟨(hn y hy1).trans c1, c2, c3, c4⟩
    · rw [gset_ne e, b2]; exact a4
    · rw [gset_ne e] at ho
      obtain ⟨d1, d2⟩ := a5 o ho
      have z := hc o d1
      rw [gset_ne e, gset_ne e, gset_ne z, gset_ne z, b2, (hx o (by rw [d1]; decide)).2.1]
      exact ⟨(hn o z).trans d1, d2⟩
/-- a field of a node that is not done, or a number of it -/
theorem WN.put (h : WN K g) (h0 : g 0 q = 0) (hT : K1.1 = K.1) (hkk : ∀ p : Nat, K1.2.1 0 p = K.2.1 0 p) (hn : ∀ p : Nat, ¬ p = q → ∀ f : Nat, f ≤ 4 → K1.2.2.1 f p = K.2.2.1 f p) : WN K1 g := fun p hp hl => by
  have e : ¬ p = q := fun z => by rw [z, h0] at hl; omega
  rw [hT] at hp
  obtain ⟨a1, a2, a3, a4, a5⟩ := h p hp hl
  have b2 := hkk p
  have b3 := hn p e
  refine ⟨?_, fun f y hf hy => ?_, fun y hy => ?_, by rw [b2]; exact a4, fun o ho => by rw [hT, hkk, hkk]; exact a5 o ho⟩
  · rw [b2]
    exact Shp.of (fun f hf => b3 f (by omega)) a1
  · rw [b3 f (by omega)] at hy
    rw [hT, b2, hkk]
    exact a2 f y hf hy
  · rw [b3 4 (by omega)] at hy
    rw [hT]
    exact a3 y hy
/-- a node is done -/
theorem WN.done (h : WN K g) (hq : K.1 q = 1) (h0 : g 0 q = 0) (hL : 1 ≤ L) (hk : Itv k ∧ IvK (K.2.1 0 q) k) (hs : Shp (K.2.1 0 q) (fun f => K.2.2.1 f q)) (hc : ∀ f x : Nat, f ≤ 3 → K.2.2.1 f q = some x → K.1 x = 1 ∧ 1 ≤ g 0 x ∧ g 0 x < L ∧ (Lsf (K.2.1 0 q) f → g 1 x = q + 1) ∧ Kch (K.2.1 0 q) f (K.2.1 0 x) k (g 2 x)) (hx : K.2.2.1 4 q = none) (hm : ∀ x : Nat, K.1 x = 1 → 1 ≤ g 0 x → g 1 x = q + 1 → g 0 x < L ∧ Owi (K.2.1 0 q) k (g 2 x)) (hO : ∀ o : Nat, O = o + 1 → ¬ o = q ∧ K.1 o = 1 ∧ (1 ≤ g 0 o → L < g 0 o) ∧ (K.2.1 0 o = 32 → K.2.1 0 q = 35) ∧ (1 ≤ g 0 o → Owi (K.2.1 0 o) (g 2 o) k)) : WN K (gset g q L O k) := fun p hp hl => by
  by_cases e : p = q
  · subst e
    refine ⟨hs, fun f y hf hy => ?_, fun y hy => ?_, ?_, fun o ho => ?_⟩
    · obtain ⟨c1, c2, c3, c4⟩ := hc f y hf hy
      have hy1 : ¬ y = p := fun z => by rw [z, h0] at c2; omega
      rw [gset_ne hy1, gset_ne hy1, gset_ne hy1, gset_0, gset_2]
      exact ⟨c1, c2, c3, c4⟩
    · rw [hx] at hy; cases hy
    · rw [gset_2]; exact hk
    · rw [gset_1] at ho
      obtain ⟨d1, d2, d3⟩ := hO o ho
      rw [gset_0, gset_2, gset_ne d1, gset_ne d1]
      exact ⟨d2, d3⟩
  · rw [gset_ne e] at hl
    obtain ⟨a1, a2, a3, a4, a5⟩ := h p hp hl
    refine ⟨a1, fun f y hf hy => ?_, fun y hy => ?_, ?_, fun o ho => ?_⟩
    · obtain ⟨c1, c2, c3, c4⟩ := a2 f y hf hy
      have hy1 : ¬ y = q := fun z => by rw [z, h0] at c2; omega
      rw [gset_ne hy1, gset_ne hy1, gset_ne hy1, gset_ne e, gset_ne e]
      exact ⟨c1, c2, c3, c4⟩
    · obtain ⟨c1, c2, c3, c4⟩ := a3 y hy
      have hy1 : ¬ y = q := fun z => by rw [z, h0] at c2; omega
      rw [gset_ne hy1, gset_ne hy1, gset_ne hy1, gset_ne e, gset_ne e]
      exact ⟨c1, c2, c3, c4⟩
    · rw [gset_ne e]; exact a4
    · rw [gset_ne e] at ho
      rw [gset_ne e, gset_ne e]
      by_cases z : o = q
      · subst z; rw [gset_0, gset_2]; exact ⟨hq, fun _ => (hm p hp hl ho).1, (a5 o ho).2.2.1, fun _ => (hm p hp hl ho).2⟩
      · rw [gset_ne z, gset_ne z]
        exact a5 o ho
/-- the next one of a list, behind one that is done -/
theorem WN.next (h : WN K g) (hq : K.1 q = 1) (hl : 1 ≤ g 0 q) (hx : K.1 x = 1 ∧ 1 ≤ g 0 x ∧ g 1 x = g 1 q ∧ g 2 q < g 2 x ∧ ¬ g 1 q = 0 ∧ rE (g 2 q) ≤ rS (g 2 x)) : WN (kC K 4 q (some x)) g := fun p hp hl2 => by
  have hp1 : K.1 p = 1 := hp
  obtain ⟨a1, a2, a3, a4, a5⟩ := h p hp1 hl2
  refine ⟨?_, fun f y hf hy => a2 f y hf ((kC_of (by omega)).symm.trans hy), fun y hy => ?_, a4, a5⟩
  · have e : ∀ f : Nat, f ≤ 3 → (kC K 4 q (some x)).2.2.1 f p = K.2.2.1 f p := fun f hf => kC_of (by omega)
    exact Shp.of e a1
  · by_cases e : p = q
    · subst e
      rw [kC_eq] at hy
      cases hy
      exact hx
    · rw [kC_ne e] at hy
      exact a3 y hy
end BT

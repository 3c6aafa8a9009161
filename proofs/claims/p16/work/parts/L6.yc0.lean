/-! what is known of the program while it runs; what a step leaves of all -/
def btK (K : PK) (dr lo k : Nat) : Prop := ∃ d : Nat, K.2.2.2.2.1 dr lo = some d ∧ bitL (K.2.2.2.1 d) k
/-- the first one of a list that has the name -/
def OwP (K : PK) (q : Nat) (x : Int32) (o : Option Nat) : Prop := ∃ (lq n : Nat) (it : Nat → Nat), K.2.2.1 9 q = some lq ∧ K.2.1 23 lq = nI n ∧ n ≤ 100000 ∧ (∀ i : Nat, i < n → ∃ r : Nat, K.2.2.1 13 lq = some r ∧ K.2.2.2.2.1 r i = some (it i)) ∧
  ((o = none ∧ ∀ i : Nat, i < n → ¬ K.2.1 6 (it i) = x) ∨ ∃ i : Nat, i < n ∧ o = some (it i) ∧ K.2.1 6 (it i) = x ∧ ∀ i2 : Nat, i2 < i → ¬ K.2.1 6 (it i2) = x)
/-- up the parents -/
def NeP (K : PK) (x : Int32) : Nat → Nat → Nat → Prop
  | 0, _, _ => False
  | n + 1, q, m => OwP K q x (some m) ∨ (OwP K q x none ∧ ∃ p : Nat, K.2.2.1 10 q = some p ∧ NeP K x n p m)
def PrY (y : TY) (K : PK) (B : Nat → Nat → Int32) (dr nd nm : Nat) (it : Nat → Nat) (cs rg : Nat) : Prop :=
  (ynm y = nm ∧ yfi y = fiK (btK K dr) nd ∧ (∀ d : Nat, (yX y).1 d → d < nd) ∧ (∀ d : Nat, 1 ≤ d → d < 7 → (yX y).1 d) ∧ nd ≤ 37) ∧
  (∀ i : Nat, i < nm → MOy y (B 16) (B 17) (B 18) (B 19) i ∧ yhi y i ≤ cs ∧ K.2.1 9 (it i) = nI i ∧ K.2.1 10 (it i) = nI (yrt y i) ∧ K.2.1 11 (it i) = nI (ylo y i) ∧ K.2.1 12 (it i) = nI (ysl y i) ∧ K.2.1 13 (it i) = nI (yr0 y i) ∧ K.2.1 14 (it i) = nI (yr1 y i) ∧ (yr0 y i ≤ yr1 y i ∧ yr1 y i ≤ rg ∧ yrt y i < 128) ∧ yrt y i = (yX y).2.2.2.2.1 i ∧ (yX y).2.2.2.2.2 i < 60) ∧
  (∀ k : Nat, k < rg → B 20 k = nI ((yQ y).1 k) ∧ B 21 k = nI ((yQ y).2.1 k) ∧ B 22 k = nI ((yQ y).2.2.1 k) ∧ B 23 k = (yQ y).2.2.2.2.1 k ∧ B 24 k = nI ((yQ y).2.2.2.1 k) ∧ (yQ y).1 k ≤ 10000 ∧ (yQ y).2.1 k ≤ 10000 ∧ (yQ y).2.2.1 k < 10000 ∧ (yQ y).2.2.2.1 k ≤ 1000 ∧ ((yQ y).2.2.2.2.1 k = -1 ∨ ∃ c : Nat, c < nd ∧ (yQ y).2.2.2.2.1 k = nI c)) ∧
  (∀ d : Nat, (yX y).1 d → ∃ q lq : Nat, K.2.2.2.2.1 dr d = some q ∧ K.2.2.1 11 q = some lq ∧ K.2.1 23 lq = nI (yfd y d) ∧ yfd y d ≤ 100000) ∧
  (∀ (d i : Nat) (x : Int32), (yX y).1 d → (yX y).2.1 d x = some i → i < nm ∧ ∃ q : Nat, K.2.2.2.2.1 dr d = some q ∧ NeP K x 101 q (it i)) ∧
  (∀ d c k : Nat, yfi y d c → c < 60 → k < yfd y c → d < 60 ∧ k < yfd y d ∧ yft y d k = yft y c k) ∧ (∀ d k : Nat, k < yfd y d → yft y d k = 60 ∨ yft y d k = 61 ∨ RfT (yft y d k)) ∧ (∀ d : Nat, d < 7 → yfd y d = 0) ∧
  (∀ d c : Nat, yfi y d c → 64 ≤ c → 64 ≤ d ∧ d < 128 ∧ TL (yfi y) (d - 64) (c - 64)) ∧
  (∀ (S : Nat → Nat) (d c : Nat) (v : Int64), yfi y d c → 64 ≤ c → VT (yfi y) S (c - 64) v → (∀ q e : Nat, v = rfV q → S q = e + 1 → yfi y e (d - 64)) → VT (yfi y) S (d - 64) v)
/-- steps that are left -/
def smf (f : Nat → Int32) (n : Nat) : Nat := sm (fun k => (f (3 * k)).toNatClampNeg) n
def mT (O f : Nat → Int32) (fl on x : Nat) : Nat := 20000 * fl + smf f (on - 1) + wt O x
def LoE (J : Nat → Nat → Int64) (sp op : Nat) : Prop := ∀ p : Nat, p < 8 → J op p = J sp p ∧ (p < 7 → J sp p = hdV 1 p)
def StG (y : TY) (it : Nat → Nat) (O H : Nat → Int32) (m0 pc0 tp1 : Nat) (en1 nx1 : Int32) (z1 : Int64) (J1 : Nat → Nat → Int64) (fl1 sp1 op1 ht1 : Nat) (f1 : Nat → Int32) (on1 ba1 mr1 : Nat) : Prop :=
  (¬ en1 = 5 ∧ z1 = 0) ∨ (en1 = 5 ∧ LoE J1 sp1 op1 ∧ ∃ (S1 nn1 : Nat → Nat) (j1 : Nat), it j1 = mr1 ∧ ((z1 = 0 ∧ ∃ x : Nat, nx1 = nI x ∧ MIy y H S1 nn1 (J1 sp1) ht1 f1 (J1 29) on1 j1 ba1 x tp1 ∧ mT O f1 fl1 on1 x + 1 ≤ m0) ∨
    (RaO S1 z1 ∧ ¬ O pc0 = 0 ∧ MWy y H S1 nn1 (J1 sp1) ht1 f1 (J1 29) on1 j1 ba1 pc0 ∧ mT O f1 fl1 on1 pc0 ≤ m0)))
section YC
variable {y : TY} {S S1 nn nn1 it : Nat → Nat} {J J1 : Nat → Nat → Int64} {f O H : Nat → Int32} {on j ba pc tp tp1 fl fl1 t ht sp op mr m0 : Nat} {en1 nx1 : Int32} {v z1 : Int64} {st st1 : Nat → Int64} {a a1 : AS} {l : List Nat}
theorem VT.rf {fi : Nat → Nat → Prop} (h : VT fi S t v) (hr : RfT t) : v = 0 ∨ ∃ p d : Nat, p < 3008 ∧ v = rfV p ∧ S p = d + 1 ∧ fi d t := by
  unfold RfT at hr
  rcases h with ⟨e, _⟩ | ⟨e, _⟩ | ⟨e, _⟩ | ⟨e, _⟩ | ⟨_, q⟩
  · omega
  · omega
  · omega
  · omega
  · exact q
theorem StG.ofQ (q : StQ y H S nn (J sp) ht f O on j ba pc fl tp1 en1 nx1 z1 (J1 29) fl1) (hsp : J1 sp = J sp) (hl : LoE J1 sp op) (hm : it j = mr) : StG y it O H (mT O f fl on pc) pc tp1 en1 nx1 z1 J1 fl1 sp op ht f on ba mr := by
  rcases q with q | ⟨q1, q2, x, q3, q4, q5⟩ | ⟨q1, q2, q0, q3, q4⟩
  · exact Or.inl q
  · refine Or.inr ⟨q1, hl, S, nn, j, hm, Or.inl ⟨q2, x, q3, by rw [hsp]; exact q4, ?_⟩⟩
    unfold mT
    omega
  · refine Or.inr ⟨q1, hl, S, nn, j, hm, Or.inr ⟨q2, q0, by rw [hsp]; exact q4, ?_⟩⟩
    unfold mT
    omega
theorem RaO.n0 (h : RaO S z1) : ¬ z1 = 0 := fun e => by
  obtain ⟨p, d, _, e2, _⟩ := h
  exact rfV_n0 (e2.symm.trans e)
end YC

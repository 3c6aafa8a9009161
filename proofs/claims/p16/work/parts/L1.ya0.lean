/-! what the machine's contracts ask of numbers, heads and rows -/
def wiN (s e x : Nat) : Nat := if s ≤ x ∧ x < e then 1 else 0
theorem wiN_1 {s e x : Nat} (h : s ≤ x ∧ x < e) : wiN s e x = 1 := if_pos h
theorem wiN_0 {s e x : Nat} (h : ¬ (s ≤ x ∧ x < e)) : wiN s e x = 0 := if_neg h
theorem wiN_le {s e x : Nat} : wiN s e x ≤ 1 := by
  unfold wiN
  by_cases h : s ≤ x ∧ x < e
  · rw [if_pos h]; exact Nat.le_refl _
  · rw [if_neg h]; exact Nat.zero_le _
theorem wiN_of {s e x : Nat} (h : ¬ wiN s e x = 0) : s ≤ x ∧ x < e := Classical.byContradiction fun z => h (wiN_0 z)
theorem wiN_no {s e x : Nat} (h : wiN s e x = 0) : ¬ (s ≤ x ∧ x < e) := fun z => by
  rw [wiN_1 z] at h
  exact absurd h (by decide)
theorem sh8 : (8 : Int32).toInt64 &&& 63 = (8 : Int64) := by decide
theorem hdV_cells2 {n d : Nat} (hn : n ≤ 3008) (hd : d < 256) : (hdV n d >>> ((8 : Int32).toInt64 &&& 63)).toInt32 = nI n := by
  rw [sh8]
  exact hdV_cells hn hd
theorem hdV_mk {n d : Nat} : ((nI n).toInt64 <<< ((8 : Int32).toInt64 &&& 63)) ||| (nI d).toInt64 = hdV n d := by
  rw [sh8]
  rfl
theorem hdV_64 {n d : Nat} (hn : n ≤ 3008) (hd : d < 256) : hdV n d &&& 255 < 64 ↔ d < 64 := by
  rw [hdV_mask hn hd]
  have e : (64 : Int64) = lN 64 := rfl
  rw [e, lN_lt (by omega) (by omega)]
theorem mx_0 {y : Nat} (h : y < 2 ^ 31) : (if (0 : Int32) < nI y then nI y else 0) = nI y := by
  by_cases z : y = 0
  · subst z
    rw [if_neg (by decide)]
    rfl
  · rw [if_pos (show (0 : Int32) < nI y from (nI_ltI (a := 0) (b := y) (by omega) h).mpr (by omega))]
theorem fil_1 {f : Nat → Int64} {a k : Nat} {x : Int64} (h : ∀ i : Nat, a ≤ i → i < k → f i = x) : ∀ i : Nat, a ≤ i → i < k + 1 → vp_updL f k x i = x := fun i h1 h2 => by
  unfold vp_updL
  by_cases z : i = k
  · rw [if_pos z]
  · rw [if_neg z]; exact h i h1 (by omega)
theorem fil_2 {f g : Nat → Int64} {a k : Nat} {x : Int64} (h : ∀ i : Nat, i < a → f i = g i) (hk : a ≤ k) : ∀ i : Nat, i < a → vp_updL f k x i = g i := fun i h1 => by
  unfold vp_updL
  rw [if_neg (by omega)]; exact h i h1
theorem lN_lt2 {a b : Nat} (ha : a < 2 ^ 62) (hb : b < 2 ^ 62) : lN a < lN b ↔ a < b := by
  rw [Int64.lt_iff_toInt_lt, show (lN a).toInt = (a : Int) from lg_ofNat_toInt (by omega), show (lN b).toInt = (b : Int) from lg_ofNat_toInt (by omega)]
  omega
theorem lN_2 : (2 : Int64) = lN 2 := rfl
/-- what lies in a thing's cells is a value -/
theorem HT.vo {fi : Nat → Nat → Prop} {fdn S nn : Nat → Nat} {fty : Nat → Nat → Nat} {sp : Nat → Int64} {hp p d i : Nat} (h : HT fi fdn fty S nn sp hp) (hS : S p = d + 1) (h8 : 8 ≤ p) (hi : i < nn p) : VO S (sp (p + i)) := by
  obtain ⟨a1, a2, a3, a4, a5⟩ := h.2.2.2 p d hS h8
  have h1 := h.1
  by_cases z : i = 0
  · subst z
    rw [show p + 0 = p from rfl, a3]
    have d9 : d < 128 := by
      rcases a4 with w | w
      · omega
      · omega
    exact Or.inl ⟨_, hdV_num (by omega) (by omega)⟩
  · rcases a4 with ⟨w1, w2, w3⟩ | ⟨w1, w2, w3, w4, w5⟩
    · have q := (w3 (i - 1) (by omega)).ok
      rw [show p + 1 + (i - 1) = p + i by omega] at q
      exact q
    · by_cases y : i = 1
      · subst y; rw [w4]; exact Or.inl ⟨0, nmV_0.symm⟩
      · have q := (w5 (i - 2) (by omega)).ok
        rw [show p + 2 + (i - 2) = p + i by omega] at q
        exact q
/-- a thing's head, and where it lies -/
theorem HT.hd {fi : Nat → Nat → Prop} {fdn S nn : Nat → Nat} {fty : Nat → Nat → Nat} {sp : Nat → Int64} {hp p d : Nat} (h : HT fi fdn fty S nn sp hp) (hS : S p = d + 1) : ∃ n : Nat, 1 ≤ n ∧ n ≤ 3008 ∧ d < 128 ∧ p < hp ∧ sp p = hdV n d ∧ (8 ≤ p → n = nn p ∧ p + n ≤ hp) ∧ (p < 8 → n = 1 ∧ d = p ∧ 1 ≤ p ∧ p < 7) := by
  have h1 := h.1
  by_cases z : p < 8
  · obtain ⟨a1, a2, a3⟩ := h.2.2.1 p d hS z
    refine ⟨1, by omega, by omega, by omega, by omega, ?_, fun _ => by omega, fun _ => ⟨rfl, a3, a1, a2⟩⟩
    rw [a3]; exact h.2.1 p a2
  · obtain ⟨a1, a2, a3, a4, a5⟩ := h.2.2.2 p d hS (by omega)
    have d9 : d < 128 := by
      rcases a4 with w | w
      · omega
      · omega
    exact ⟨nn p, a1, by omega, d9, by omega, a3, fun _ => ⟨rfl, a2⟩, fun _ => by omega⟩
theorem fwV_neg {y : Nat} (h1 : 1 ≤ y) (h2 : y ≤ 3008) : fwV y < 0 := by
  unfold fwV
  rw [Int64.lt_iff_toInt_lt, Int32.toInt_toInt64, Int32.toInt_neg, nI_toInt (by omega)]
  have e : (-(y : Int)).bmod (2 ^ 32) = -(y : Int) := Int.bmod_eq_of_le (by omega) (by omega)
  rw [e]
  show -(y : Int) < 0
  omega
theorem fwV_back {y : Nat} (h2 : y ≤ 3008) : -(fwV y) = (nI y).toInt64 := by
  unfold fwV
  rw [← Int64.toInt_inj, Int64.toInt_neg, Int32.toInt_toInt64, Int32.toInt_toInt64, Int32.toInt_neg, nI_toInt (by omega)]
  have e : (-(y : Int)).bmod (2 ^ 32) = -(y : Int) := Int.bmod_eq_of_le (by omega) (by omega)
  rw [e, Int.neg_neg]
  exact Int.bmod_eq_of_le (by omega) (by omega)

theorem upd_eq {f : Nat → Int32} {k : Nat} {x : Int32} : upd f k x k = x := if_pos rfl
def OrY (y : Int32) (wr : Nat) : Prop := y = -1 ∨ ∃ q : Nat, y = nI q ∧ q < wr
theorem all_upd {p : Nat → Int32 → Prop} {f : Nat → Int32} {k : Nat} {v : Int32} (h : ∀ i : Nat, i < k → p i (f i)) (g : p k v) : ∀ i : Nat, i < k + 1 → p i (upd f k v i) := fun i hi => by
  unfold upd
  by_cases e : i = k
  · rw [if_pos e, e]; exact g
  · rw [if_neg e]; exact h i (by omega)
def n64 (n : Nat) : Int64 := Int64.ofNat n
theorem n64_toInt {n : Nat} (h : n < 2 ^ 63) : (n64 n).toInt = n := by
  unfold n64
  exact Int64.toInt_ofNat_of_lt h
theorem n64_add (a b : Nat) : n64 a + n64 b = n64 (a + b) := by
  unfold n64; exact (Int64.ofNat_add a b).symm
theorem nI_nn {x : Int32} (h : (0 : Int32) ≤ x) : ∃ k : Nat, x = nI k ∧ k < 2147483648 := by
  have h0 : (0 : Int) ≤ x.toInt := by have := Int32.le_iff_toInt_le.mp h; simpa using this
  have h1 : x.toInt < 2 ^ 31 := Int32.toInt_lt x
  refine ⟨x.toInt.toNat, ?_, by omega⟩
  apply Int32.toInt_inj.mp
  rw [nI_toInt (by omega)]; omega
theorem nI_nn2 {x : Int32} (h : ¬ x < 0) : ∃ k : Nat, x = nI k ∧ k < 2147483648 := nI_nn (by
  have h1 : ¬ x.toInt < (0 : Int32).toInt := fun w => h (Int32.lt_iff_toInt_lt.mpr w)
  exact Int32.le_iff_toInt_le.mpr (by omega))
def InQ (ni ni1 : Nat) (r : Int32) : Prop := (ni < 200 ∧ ni1 = ni + 1 ∧ r = nI (ni + 1)) ∨ (200 ≤ ni ∧ ni1 = ni ∧ r = -1)

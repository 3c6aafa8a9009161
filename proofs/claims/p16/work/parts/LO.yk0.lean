/-! the start of a run -/
/-- the types of the heap before anything was made -/
def S0 (p : Nat) : Nat := if 1 ≤ p ∧ p < 7 then p + 1 else 0
def MnX (y : TY) (K : PK) (dr nd m i : Nat) : Prop := m < nd ∧ m < 60 ∧ (yX y).1 m ∧ (∃ q : Nat, K.2.2.2.2.1 dr m = some q ∧ K.2.1 16 q = 36) ∧ (∀ k q : Nat, k < m → K.2.2.2.2.1 dr k = some q → ¬ K.2.1 16 q = 36) ∧ (yX y).2.1 m 37 = some i ∧ (yX y).2.2.1 i = 0 ∧ yfi y m ((yX y).2.2.2.2.2 i)
section YM
variable {y : TY} {it nn : Nat → Nat} {J J1 : Nat → Nat → Int64} {f O L R H : Nat → Int32} {sp op m i c fl fl1 : Nat} {K : PK} {B : Nat → Nat → Int32} {dr nd nm cs rg : Nat} {st : Nat → Int64}
theorem S0_lo {p : Nat} (h1 : 1 ≤ p) (h7 : p < 7) : S0 p = p + 1 := if_pos ⟨h1, h7⟩
theorem S0_of {p d : Nat} (h : S0 p = d + 1) : 1 ≤ p ∧ p < 7 ∧ d = p := by
  unfold S0 at h
  by_cases z : 1 ≤ p ∧ p < 7
  · rw [if_pos z] at h
    exact ⟨z.1, z.2, by omega⟩
  · rw [if_neg z] at h
    omega
theorem HT.start (h : LoE J sp op) : HT (yfi y) (yfd y) (yft y) S0 nn (J sp) 8 := ⟨by omega, fun p hp => (h p (by omega)).2 hp, fun p d hS _ => S0_of hS, fun p d hS h8 => by have := S0_of hS; omega⟩
/-- main begins -/
theorem MIy.start (hht : HT (yfi y) (yfd y) (yft y) (upM S0 8 (m + 1)) (upM nn 8 c) (J sp) (8 + c)) (hpy : PrY y K B dr nd nm it cs rg) (hx : (yX y).1 m) (hm : MOy y O L R H i) (hi : i < nm) (h0 : (yX y).2.2.1 i = 0) (hf : yfi y m ((yX y).2.2.2.2.2 i)) (hst : st 0 = rfV 8) (hm60 : m < 60) (ho : (yX y).2.2.2.2.2 i < 60) :
    MIy y H (upM S0 8 (m + 1)) (upM nn 8 c) (J sp) (8 + c) f st 1 i 0 (ylo y i) (ysl y i) := by
  obtain ⟨k1, k2, k3, k4, k5, k6, k7, k8, k9, k10, k11⟩ := hm
  have vt : ∀ t : Nat, RfT t → yfi y m t → VT (yfi y) (upM S0 8 (m + 1)) t (st 0) := fun t hr ht => Or.inr (Or.inr (Or.inr (Or.inr ⟨hr, Or.inr ⟨8, m, by omega, hst, upM_eq, ht⟩⟩)))
  have hO : OpS (yfi y) (upM S0 8 (m + 1)) st ([] ++ m :: []) 1 := ⟨by omega, vt m (Or.inl hm60) (PrY.self hpy (Or.inl hx)), trivial⟩
  have b := FF.begin (rt := yrt y i) (wp := ywp y i) (ar := []) (os := []) (np := (yX y).2.2.1 i) hO trivial (by rw [h0]; rfl) k9 k10 (by rw [h0]; exact vt _ (Or.inl ho) hf)
  have b1 := b.1
  rw [h0] at b1
  have b2 : FF (yfi y) (upM S0 8 (m + 1)) (yrt y i) (ywp y i) st (yA y i (ylo y i)) 0 (ysl y i) (ysl y i) := by
    have e : 1 - 0 - 1 + ysl y i = ysl y i := by omega
    have q : FF (yfi y) (upM S0 8 (m + 1)) (yrt y i) (ywp y i) st (yA y i (ylo y i)) (1 - 0 - 1) (ysl y i) (1 - 0 - 1 + ysl y i) := b1
    rw [e] at q
    exact q
  refine ⟨⟨⟨by omega, by omega, by rw [hpy.1.1]; exact hi, Nat.le_refl _, k2.1, by omega⟩, b2, trivial, hht⟩, ⟨fun p h1 h7 => ?_, fun p d hS hd => ?_⟩, fun k pc2 i2 q1 q2 => by omega⟩
  · rw [upM_ne (by omega)]; exact S0_lo h1 h7
  · by_cases z : p = 8
    · rw [z, upM_eq] at hS
      have e : d = m := by omega
      rw [e]; exact hx
    · rw [upM_ne z] at hS
      obtain ⟨w1, w2, w3⟩ := S0_of hS
      rw [w3]; exact hpy.1.2.2.2.1 p w1 w2
end YM

/-- only the least fault has changed -/
def LgK (K K1 : PK) (pq : Nat) : Prop := ∃ v : Int32, K1 = kI K 25 pq v
section LG
variable {G : pT} {K K1 K2 : PK} {g : Nat → Nat → Nat} {p q d f ax pq dr ml nd nm cp s es n cap : Nat} {it rk : Nat → Nat} {v w : Int32}
theorem kI_kI : kI (kI K f q v) f q w = kI K f q w := by
  unfold kI
  refine congrArg (fun z => (K.1, z, K.2.2)) ?_
  funext f9 p9
  show updF (updF K.2.1 f q v) f q w f9 p9 = updF K.2.1 f q w f9 p9
  unfold updF
  by_cases h1 : f9 = f <;> by_cases h2 : p9 = q <;> simp [h1, h2]
theorem kI_self : kI K f q (K.2.1 f q) = K := by
  unfold kI
  have e : updF K.2.1 f q (K.2.1 f q) = K.2.1 := by
    funext f9 p9
    unfold updF
    by_cases h1 : f9 = f
    · rw [if_pos h1]
      by_cases h2 : p9 = q
      · rw [if_pos h2, h1, h2]
      · rw [if_neg h2]
    · rw [if_neg h1]
  rw [e]
theorem LgK.rfl : LgK K K pq := ⟨K.2.1 25 pq, kI_self.symm⟩
theorem LgK.trans (h : LgK K K1 pq) (h2 : LgK K1 K2 pq) : LgK K K2 pq := by
  obtain ⟨v, e⟩ := h
  obtain ⟨w, e2⟩ := h2
  exact ⟨w, by rw [e2, e, kI_kI]⟩
theorem LgK.T (h : LgK K K1 pq) (p : Nat) : K1.1 p = K.1 p := by
  obtain ⟨v, e⟩ := h
  rw [e]; exact Eq.refl _
theorem LgK.C (h : LgK K K1 pq) (f p : Nat) : K1.2.2.1 f p = K.2.2.1 f p := by
  obtain ⟨v, e⟩ := h
  rw [e]; exact Eq.refl _
theorem LgK.L (h : LgK K K1 pq) (p : Nat) : K1.2.2.2.1 p = K.2.2.2.1 p := by
  obtain ⟨v, e⟩ := h
  rw [e]; exact Eq.refl _
theorem LgK.E (h : LgK K K1 pq) (p : Nat) : K1.2.2.2.2.1 p = K.2.2.2.2.1 p := by
  obtain ⟨v, e⟩ := h
  rw [e]; exact Eq.refl _
theorem LgK.I (h : LgK K K1 pq) (f p : Nat) (hf : ¬ f = 25) : K1.2.1 f p = K.2.1 f p := by
  obtain ⟨v, e⟩ := h
  rw [e]; exact kI_of hf
theorem LgK.wp (h : LgK K K1 pq) (hw : WPr G K g) : WPr G K1 g := by
  obtain ⟨v, e⟩ := h
  rw [e]; exact WPr.kI hw (by decide) (Or.inl (by decide))
theorem LgK.ps (h : LgK K K1 pq) (hw : PgT G K g ax pq dr ml nd nm cp it s) : PgT G K1 g ax pq dr ml nd nm cp it s := by
  obtain ⟨v, e⟩ := h
  rw [e]; exact PgT.kI hw (by decide)
theorem LgK.ls (h : LgK K K1 pq) (hw : LsC G K q es n it cap) : LsC G K1 q es n it cap := by
  obtain ⟨v, e⟩ := h
  rw [e]; exact ⟨hw.1, (kI_of (by decide)).trans hw.2.1, hw.2.2⟩
theorem LgK.rko (h : LgK K K1 pq) (hw : RkO K rk) : RkO K1 rk := by
  obtain ⟨v, e⟩ := h
  rw [e]; exact hw
end LG
/-- a bit of a long -/
def bitL (x : Int64) (j : Nat) : Prop := x.toBitVec.getLsbD j = true
theorem bitL_or {x y : Int64} {j : Nat} : bitL (x ||| y) j ↔ bitL x j ∨ bitL y j := by
  unfold bitL
  rw [Int64.toBitVec_or, BitVec.getLsbD_or, Bool.or_eq_true]
theorem bitL_shl : ∀ p : Nat, p < 64 → bitL ((1 : Int64) <<< ((nI p).toInt64 &&& 63)) p := by
  unfold bitL
  decide +kernel
theorem bitL_zero {j : Nat} : ¬ bitL 0 j := by
  unfold bitL
  intro h
  have e : (0 : Int64).toBitVec = 0#64 := rfl
  rw [e, BitVec.getLsbD_zero] at h
  exact absurd h (by decide)
theorem shamt : ∀ j : Nat, j < 64 → ((nI j).toInt64.toUInt64 &&& Int64.toUInt64 63).toBitVec = BitVec.ofNat 64 j := by decide +kernel
theorem bitL_test {x : Int64} {j : Nat} (hj : j < 64) : ((x.toUInt64 >>> ((nI j).toInt64.toUInt64 &&& Int64.toUInt64 63)).toInt64 &&& 1 = 1) ↔ bitL x j := by
  rw [← Int64.toBitVec_inj, Int64.toBitVec_and]
  have e1 : (x.toUInt64 >>> ((nI j).toInt64.toUInt64 &&& Int64.toUInt64 63)).toInt64.toBitVec = x.toBitVec >>> j := by
    show (x.toUInt64 >>> ((nI j).toInt64.toUInt64 &&& Int64.toUInt64 63)).toBitVec = _
    rw [UInt64.toBitVec_shiftRight, shamt j hj]
    show x.toBitVec >>> (BitVec.ofNat 64 j % 64#64) = _
    rw [BitVec.ushiftRight_eq']
    congr 1
    rw [BitVec.toNat_umod, BitVec.toNat_ofNat]
    show j % 2 ^ 64 % 64 = j
    omega
  have e2 : (1 : Int64).toBitVec = 1#64 := rfl
  rw [e1, e2]
  unfold bitL
  constructor
  · intro h
    have h2 := congrArg (fun z => BitVec.getLsbD z 0) h
    simp only [BitVec.getLsbD_and, BitVec.getLsbD_ushiftRight] at h2
    simpa using h2
  · intro h
    refine BitVec.eq_of_getLsbD_eq (fun i hi => ?_)
    rw [BitVec.getLsbD_and, BitVec.getLsbD_ushiftRight]
    by_cases e : i = 0
    · subst e
      simp [h]
    · have e3 : (1#64).getLsbD i = false := by
        rw [BitVec.getLsbD_one]
        simp [e]
      rw [e3, Bool.and_false]

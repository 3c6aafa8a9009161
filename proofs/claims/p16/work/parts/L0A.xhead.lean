/-! heads: cells and type of a thing -/
section XD
variable {n d : Nat}
theorem lN_bv {k : Nat} (h : k < 2 ^ 31) : ((nI k).toInt64).toBitVec = BitVec.ofNat 64 k := by
  rw [nI_l h]
  rfl
theorem hdV_bv (hn : n ≤ 3008) (hd : d < 256) : (hdV n d).toBitVec = BitVec.ofNat 64 (256 * n + d) := by
  unfold hdV
  rw [Int64.toBitVec_or, lN_bv (by omega)]
  have e1 : ((nI n).toInt64 <<< (8 : Int64)).toBitVec = BitVec.ofNat 64 n <<< 8 := by
    rw [Int64.toBitVec_shiftLeft, lN_bv (by omega)]
    rfl
  rw [e1]
  apply BitVec.eq_of_toNat_eq
  rw [BitVec.toNat_or, BitVec.toNat_shiftLeft, BitVec.toNat_ofNat, BitVec.toNat_ofNat, BitVec.toNat_ofNat]
  rw [Nat.mod_eq_of_lt (show n < 2 ^ 64 by omega), Nat.mod_eq_of_lt (show d < 2 ^ 64 by omega), Nat.mod_eq_of_lt (show 256 * n + d < 2 ^ 64 by omega)]
  rw [Nat.shiftLeft_eq, Nat.mod_eq_of_lt (show n * 2 ^ 8 < 2 ^ 64 by omega)]
  have z := Nat.shiftLeft_add_eq_or_of_lt (i := 8) (b := d) (show d < 2 ^ 8 by omega) n
  rw [Nat.shiftLeft_eq] at z
  rw [← z]
  omega
theorem hdV_num (hn : n ≤ 3008) (hd : d < 256) : hdV n d = nmV (nI (256 * n + d)) := by
  rw [← Int64.toBitVec_inj, hdV_bv hn hd]
  unfold nmV
  rw [Int64.toBitVec_and, lN_bv (by omega)]
  apply BitVec.eq_of_toNat_eq
  rw [BitVec.toNat_and, BitVec.toNat_ofNat]
  show _ = (256 * n + d) % 2 ^ 64 &&& 2 ^ 32 - 1
  rw [Nat.and_two_pow_sub_one_eq_mod]
  omega
theorem hdV_l (hn : n ≤ 3008) (hd : d < 256) : hdV n d = lN (256 * n + d) := by
  rw [← Int64.toBitVec_inj, hdV_bv hn hd]
  rfl
theorem hdV_pos (h1 : 1 ≤ n) (hn : n ≤ 3008) (hd : d < 256) : ¬ hdV n d < 0 ∧ ¬ hdV n d = 0 := by
  rw [hdV_l hn hd]
  have e0 : (0 : Int64) = lN 0 := rfl
  rw [e0, lN_lt (by omega) (by omega), lN_eq (by omega) (by omega)]
  omega
theorem hdV_type (hn : n ≤ 3008) (hd : d < 256) : (hdV n d).toInt32 &&& 255 = nI d := by
  rw [hdV_l hn hd, lN_i, ← Int32.toBitVec_inj, Int32.toBitVec_and]
  apply BitVec.eq_of_toNat_eq
  rw [BitVec.toNat_and]
  show (256 * n + d) % 2 ^ 32 &&& 2 ^ 8 - 1 = d % 2 ^ 32
  rw [Nat.and_two_pow_sub_one_eq_mod]
  omega
theorem hdV_mask (hn : n ≤ 3008) (hd : d < 256) : hdV n d &&& 255 = lN d := by
  rw [hdV_l hn hd, ← Int64.toBitVec_inj, Int64.toBitVec_and]
  apply BitVec.eq_of_toNat_eq
  rw [BitVec.toNat_and]
  show (256 * n + d) % 2 ^ 64 &&& 2 ^ 8 - 1 = d % 2 ^ 64
  rw [Nat.and_two_pow_sub_one_eq_mod]
  omega
theorem hdV_cells (hn : n ≤ 3008) (hd : d < 256) : (hdV n d >>> (8 : Int64)).toInt32 = nI n := by
  have e : hdV n d >>> (8 : Int64) = lN n := by
    rw [hdV_l hn hd, ← Int64.toBitVec_inj, Int64.toBitVec_shiftRight]
    apply BitVec.eq_of_toInt_eq
    show (BitVec.sshiftRight (BitVec.ofNat 64 (256 * n + d)) 8).toInt = (lN n).toInt
    rw [BitVec.toInt_sshiftRight]
    show (lN (256 * n + d)).toInt >>> 8 = _
    rw [lN_toInt (by omega), lN_toInt (by omega), Int.shiftRight_eq_div_pow]
    omega
  rw [e, lN_i]
end XD

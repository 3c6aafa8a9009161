def FL : List Cond := flatC (Jvm.Cond.and given_1 narrow_1)
def sTm (i : Nat) : Term := Term.string (sOwn.getD i ("", 0, "")).1 (sOwn.getD i ("", 0, "")).2.1
def sEl (i j : Nat) : Cond := Cond.eq (.elem (.field (sTm i) "java/lang/String" "value" "[B") (.int (Int32.ofNat j))) (.int ((sByt.getD i []).getD j 0))
theorem fe_0 : ((FL.drop 260).take 100) = (List.range 100).map (sEl 0) := by decide +kernel
theorem fe_1 : ((FL.drop 364).take 71) = (List.range 71).map (sEl 1) := by decide +kernel
theorem fe_2 : ((FL.drop 440).take 49) = (List.range 49).map (sEl 2) := by decide +kernel
theorem fe_3 : ((FL.drop 777).take 6) = (List.range 6).map (sEl 3) := by decide +kernel
theorem fe_4 : ((FL.drop 800).take 4) = (List.range 4).map (sEl 4) := by decide +kernel
theorem fe_5 : ((FL.drop 822).take 4) = (List.range 4).map (sEl 5) := by decide +kernel
theorem fe_6 : ((FL.drop 845).take 4) = (List.range 4).map (sEl 6) := by decide +kernel
theorem fe_7 : ((FL.drop 869).take 5) = (List.range 5).map (sEl 7) := by decide +kernel
theorem fe_8 : ((FL.drop 895).take 5) = (List.range 5).map (sEl 8) := by decide +kernel
theorem fe_9 : ((FL.drop 922).take 4) = (List.range 4).map (sEl 9) := by decide +kernel
theorem fe_10 : ((FL.drop 949).take 4) = (List.range 4).map (sEl 10) := by decide +kernel
theorem fe_11 : ((FL.drop 977).take 4) = (List.range 4).map (sEl 11) := by decide +kernel
theorem fe_12 : ((FL.drop 579).take 22) = (List.range 22).map (sEl 12) := by decide +kernel
theorem fe_13 : ((FL.drop 611).take 40) = (List.range 40).map (sEl 13) := by decide +kernel
theorem fe_14 : ((FL.drop 662).take 19) = (List.range 19).map (sEl 14) := by decide +kernel
theorem fe_in {i p n : Nat} (h : ((FL.drop p).take n) = (List.range n).map (sEl i)) {j : Nat} (hj : j < n) : sEl i j ∈ FL := by
  have h1 : sEl i j ∈ (List.range n).map (sEl i) := List.mem_map.mpr ⟨j, List.mem_range.mpr hj, rfl⟩
  rw [← h] at h1
  exact List.mem_of_mem_drop (List.mem_of_mem_take h1)
theorem fe_all : ∀ i : Nat, i < 15 → ∀ j : Nat, j < sLen.getD i 0 → sEl i j ∈ FL := by
  intro i hi j hj
  have hc : i = 0 ∨ i = 1 ∨ i = 2 ∨ i = 3 ∨ i = 4 ∨ i = 5 ∨ i = 6 ∨ i = 7 ∨ i = 8 ∨ i = 9 ∨ i = 10 ∨ i = 11 ∨ i = 12 ∨ i = 13 ∨ i = 14 := by omega
  rcases hc with rfl | rfl | rfl | rfl | rfl | rfl | rfl | rfl | rfl | rfl | rfl | rfl | rfl | rfl | rfl
  · exact fe_in fe_0 (by rw [show sLen.getD 0 0 = 100 by decide +kernel] at hj; exact hj)
  · exact fe_in fe_1 (by rw [show sLen.getD 1 0 = 71 by decide +kernel] at hj; exact hj)
  · exact fe_in fe_2 (by rw [show sLen.getD 2 0 = 49 by decide +kernel] at hj; exact hj)
  · exact fe_in fe_3 (by rw [show sLen.getD 3 0 = 6 by decide +kernel] at hj; exact hj)
  · exact fe_in fe_4 (by rw [show sLen.getD 4 0 = 4 by decide +kernel] at hj; exact hj)
  · exact fe_in fe_5 (by rw [show sLen.getD 5 0 = 4 by decide +kernel] at hj; exact hj)
  · exact fe_in fe_6 (by rw [show sLen.getD 6 0 = 4 by decide +kernel] at hj; exact hj)
  · exact fe_in fe_7 (by rw [show sLen.getD 7 0 = 5 by decide +kernel] at hj; exact hj)
  · exact fe_in fe_8 (by rw [show sLen.getD 8 0 = 5 by decide +kernel] at hj; exact hj)
  · exact fe_in fe_9 (by rw [show sLen.getD 9 0 = 4 by decide +kernel] at hj; exact hj)
  · exact fe_in fe_10 (by rw [show sLen.getD 10 0 = 4 by decide +kernel] at hj; exact hj)
  · exact fe_in fe_11 (by rw [show sLen.getD 11 0 = 4 by decide +kernel] at hj; exact hj)
  · exact fe_in fe_12 (by rw [show sLen.getD 12 0 = 22 by decide +kernel] at hj; exact hj)
  · exact fe_in fe_13 (by rw [show sLen.getD 13 0 = 40 by decide +kernel] at hj; exact hj)
  · exact fe_in fe_14 (by rw [show sLen.getD 14 0 = 19 by decide +kernel] at hj; exact hj)
theorem fx_all : ∀ i : Nat, i < 15 → Cond.exactly (sTm i) "java/lang/String" ∈ FL := by decide +kernel
theorem fc_all : ∀ i : Nat, i < 15 → Cond.eq (.field (sTm i) "java/lang/String" "coder" "B") (.int 0) ∈ FL := by decide +kernel
theorem fa_all : ∀ i : Nat, i < 15 → Cond.arrayOf (.field (sTm i) "java/lang/String" "value" "[B") .byte ∈ FL := by decide +kernel
theorem fl_all : ∀ i : Nat, i < 15 → Cond.eq (.length (.field (sTm i) "java/lang/String" "value" "[B")) (.int (Int32.ofNat (sLen.getD i 0))) ∈ FL := by decide +kernel
theorem fn_all : ∀ i : Nat, i < 15 → ∀ j : Nat, j < 15 → i ≠ j → Cond.not (Cond.eq (sTm i) (sTm j)) ∈ FL ∨ Cond.not (Cond.eq (sTm j) (sTm i)) ∈ FL := by decide +kernel
theorem fr_all : ∀ i : Nat, i < 15 → Cond.stringRef (sOwn.getD i ("", 0, "")).1 (sOwn.getD i ("", 0, "")).2.1 (sOwn.getD i ("", 0, "")).2.2 ∈ lw_tbl := by decide +kernel

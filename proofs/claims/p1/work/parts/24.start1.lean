def FL : List Cond := flatC (Jvm.Cond.and given_1 narrow_1)
def sTm (i : Nat) : Term := Term.string (sOwn.getD i ("", 0, "")).1 (sOwn.getD i ("", 0, "")).2.1
def sEl (i j : Nat) : Cond := Cond.eq (.elem (.field (sTm i) "java/lang/String" "value" "[B") (.int (Int32.ofNat j))) (.int ((sByt.getD i []).getD j 0))
theorem fe_0 : ((FL.drop 260).take 100) = (List.range 100).map (sEl 0) := by decide +kernel
theorem fe_1 : ((FL.drop 364).take 71) = (List.range 71).map (sEl 1) := by decide +kernel
theorem fe_2 : ((FL.drop 440).take 49) = (List.range 49).map (sEl 2) := by decide +kernel
theorem fe_3 : ((FL.drop 777).take 6) = (List.range 6).map (sEl 3) := by decide +kernel
theorem fe_4 : ((FL.drop 800).take 4) = (List.range 4).map (sEl 4) := by decide +kernel
theorem fe_5 : ((FL.drop 822).take 4) = (List.range 4).map (sEl 5) := by decide +kernel
theorem fe_6 : ((FL.drop 845).take 4) = (List.range 4).map (sEl 6) := by decide +kernel
theorem fe_7 : ((FL.drop 869).take 5) = (List.range 5).map (sEl 7) := by decide +kernel
theorem fe_8 : ((FL.drop 895).take 5) = (List.range 5).map (sEl 8) := by decide +kernel
theorem fe_9 : ((FL.drop 922).take 4) = (List.range 4).map (sEl 9) := by decide +kernel
theorem fe_10 : ((FL.drop 949).take 4) = (List.range 4).map (sEl 10) := by decide +kernel
theorem fe_11 : ((FL.drop 977).take 4) = (List.range 4).map (sEl 11) := by decide +kernel
theorem fe_12 : ((FL.drop 579).take 22) = (List.range 22).map (sEl 12) := by decide +kernel
theorem fe_13 : ((FL.drop 611).take 40) = (List.range 40).map (sEl 13) := by decide +kernel
theorem fe_14 : ((FL.drop 662).take 19) = (List.range 19).map (sEl 14) := by decide +kernel
theorem fe_in {i p n : Nat} (h : ((FL.drop p).take n) = (List.range n).map (sEl i)) {j : Nat} (hj : j < n) : sEl i j ∈ FL := by
  have h1 : sEl i j ∈ (List.range n).map (sEl i) := List.mem_map.mpr ⟨j, List.mem_range.mpr hj, rfl⟩
  rw [← h] at h1
  exact List.mem_of_mem_drop (List.mem_of_mem_take h1)
theorem fe_all : ∀ i : Nat, i < 15 → ∀ j : Nat, j < sLen.getD i 0 → sEl i j ∈ FL := by
  intro i hi j hj
  have hc : i = 0 ∨ i = 1 ∨ i = 2 ∨ i = 3 ∨ i = 4 ∨ i = 5 ∨ i = 6 ∨ i = 7 ∨ i = 8 ∨ i = 9 ∨ i = 10 ∨ i = 11 ∨ i = 12 ∨ i = 13 ∨ i = 14 := by omega
  rcases hc with rfl | rfl | rfl | rfl | rfl | rfl | rfl | rfl | rfl | rfl | rfl | rfl | rfl | rfl | rfl
  · exact fe_in fe_0 (by rw [show sLen.getD 0 0 = 100 by decide +kernel] at hj; exact hj)
  · exact fe_in fe_1 (by rw [show sLen.getD 1 0 = 71 by decide +kernel] at hj; exact hj)
  · exact fe_in fe_2 (by rw [show sLen.getD 2 0 = 49 by decide +kernel] at hj; exact hj)
  · exact fe_in fe_3 (by rw [show sLen.getD 3 0 = 6 by decide +kernel] at hj; exact hj)
  · exact fe_in fe_4 (by rw [show sLen.getD 4 0 = 4 by decide +kernel] at hj; exact hj)
  · exact fe_in fe_5 (by rw [show sLen.getD 5 0 = 4 by decide +kernel] at hj; exact hj)
  · exact fe_in fe_6 (by rw [show sLen.getD 6 0 = 4 by decide +kernel] at hj; exact hj)
  · exact fe_in fe_7 (by rw [show sLen.getD 7 0 = 5 by decide +kernel] at hj; exact hj)
  · exact fe_in fe_8 (by rw [show sLen.getD 8 0 = 5 by decide +kernel] at hj; exact hj)
  · exact fe_in fe_9 (by rw [show sLen.getD 9 0 = 4 by decide +kernel] at hj; exact hj)
  · exact fe_in fe_10 (by rw [show sLen.getD 10 0 = 4 by decide +kernel] at hj; exact hj)
  · exact fe_in fe_11 (by rw [show sLen.getD 11 0 = 4 by decide +kernel] at hj; exact hj)
  · exact fe_in fe_12 (by rw [show sLen.getD 12 0 = 22 by decide +kernel] at hj; exact hj)
  · exact fe_in fe_13 (by rw [show sLen.getD 13 0 = 40 by decide +kernel] at hj; exact hj)
  · exact fe_in fe_14 (by rw [show sLen.getD 14 0 = 19 by decide +kernel] at hj; exact hj)
theorem fx_all : ∀ i : Nat, i < 15 → Cond.exactly (sTm i) "java/lang/String" ∈ FL := by decide +kernel
theorem fc_all : ∀ i : Nat, i < 15 → Cond.eq (.field (sTm i) "java/lang/String" "coder" "B") (.int 0) ∈ FL := by decide +kernel
theorem fa_all : ∀ i : Nat, i < 15 → Cond.arrayOf (.field (sTm i) "java/lang/String" "value" "[B") .byte ∈ FL := by decide +kernel
theorem fl_all : ∀ i : Nat, i < 15 → Cond.eq (.length (.field (sTm i) "java/lang/String" "value" "[B")) (.int (Int32.ofNat (sLen.getD i 0))) ∈ FL := by decide +kernel
theorem fn_0_1 : FL[435]? = some (Cond.not (Cond.eq (sTm 0) (sTm 1))) := by decide +kernel
theorem fn_0_2 : FL[489]? = some (Cond.not (Cond.eq (sTm 0) (sTm 2))) := by decide +kernel
theorem fn_0_3 : FL[783]? = some (Cond.not (Cond.eq (sTm 0) (sTm 3))) := by decide +kernel
theorem fn_0_4 : FL[804]? = some (Cond.not (Cond.eq (sTm 0) (sTm 4))) := by decide +kernel
theorem fn_0_5 : FL[826]? = some (Cond.not (Cond.eq (sTm 0) (sTm 5))) := by decide +kernel
theorem fn_0_6 : FL[849]? = some (Cond.not (Cond.eq (sTm 0) (sTm 6))) := by decide +kernel
theorem fn_0_7 : FL[874]? = some (Cond.not (Cond.eq (sTm 0) (sTm 7))) := by decide +kernel
theorem fn_0_8 : FL[900]? = some (Cond.not (Cond.eq (sTm 0) (sTm 8))) := by decide +kernel
theorem fn_0_9 : FL[926]? = some (Cond.not (Cond.eq (sTm 0) (sTm 9))) := by decide +kernel
theorem fn_0_10 : FL[953]? = some (Cond.not (Cond.eq (sTm 0) (sTm 10))) := by decide +kernel
theorem fn_0_11 : FL[981]? = some (Cond.not (Cond.eq (sTm 0) (sTm 11))) := by decide +kernel
theorem fn_0_12 : FL[601]? = some (Cond.not (Cond.eq (sTm 0) (sTm 12))) := by decide +kernel
theorem fn_0_13 : FL[651]? = some (Cond.not (Cond.eq (sTm 0) (sTm 13))) := by decide +kernel
theorem fn_0_14 : FL[681]? = some (Cond.not (Cond.eq (sTm 0) (sTm 14))) := by decide +kernel
theorem fn_1_2 : FL[490]? = some (Cond.not (Cond.eq (sTm 1) (sTm 2))) := by decide +kernel
theorem fn_1_3 : FL[784]? = some (Cond.not (Cond.eq (sTm 1) (sTm 3))) := by decide +kernel
theorem fn_1_4 : FL[805]? = some (Cond.not (Cond.eq (sTm 1) (sTm 4))) := by decide +kernel
theorem fn_1_5 : FL[827]? = some (Cond.not (Cond.eq (sTm 1) (sTm 5))) := by decide +kernel
theorem fn_1_6 : FL[850]? = some (Cond.not (Cond.eq (sTm 1) (sTm 6))) := by decide +kernel
theorem fn_1_7 : FL[875]? = some (Cond.not (Cond.eq (sTm 1) (sTm 7))) := by decide +kernel
theorem fn_1_8 : FL[901]? = some (Cond.not (Cond.eq (sTm 1) (sTm 8))) := by decide +kernel
theorem fn_1_9 : FL[927]? = some (Cond.not (Cond.eq (sTm 1) (sTm 9))) := by decide +kernel
theorem fn_1_10 : FL[954]? = some (Cond.not (Cond.eq (sTm 1) (sTm 10))) := by decide +kernel
theorem fn_1_11 : FL[982]? = some (Cond.not (Cond.eq (sTm 1) (sTm 11))) := by decide +kernel
theorem fn_1_12 : FL[602]? = some (Cond.not (Cond.eq (sTm 1) (sTm 12))) := by decide +kernel
theorem fn_1_13 : FL[652]? = some (Cond.not (Cond.eq (sTm 1) (sTm 13))) := by decide +kernel
theorem fn_1_14 : FL[682]? = some (Cond.not (Cond.eq (sTm 1) (sTm 14))) := by decide +kernel
theorem fn_2_3 : FL[785]? = some (Cond.not (Cond.eq (sTm 2) (sTm 3))) := by decide +kernel
theorem fn_2_4 : FL[806]? = some (Cond.not (Cond.eq (sTm 2) (sTm 4))) := by decide +kernel
theorem fn_2_5 : FL[828]? = some (Cond.not (Cond.eq (sTm 2) (sTm 5))) := by decide +kernel
theorem fn_2_6 : FL[851]? = some (Cond.not (Cond.eq (sTm 2) (sTm 6))) := by decide +kernel
theorem fn_2_7 : FL[876]? = some (Cond.not (Cond.eq (sTm 2) (sTm 7))) := by decide +kernel
theorem fn_2_8 : FL[902]? = some (Cond.not (Cond.eq (sTm 2) (sTm 8))) := by decide +kernel
theorem fn_2_9 : FL[928]? = some (Cond.not (Cond.eq (sTm 2) (sTm 9))) := by decide +kernel
theorem fn_2_10 : FL[955]? = some (Cond.not (Cond.eq (sTm 2) (sTm 10))) := by decide +kernel
theorem fn_2_11 : FL[983]? = some (Cond.not (Cond.eq (sTm 2) (sTm 11))) := by decide +kernel
theorem fn_2_12 : FL[603]? = some (Cond.not (Cond.eq (sTm 2) (sTm 12))) := by decide +kernel
theorem fn_2_13 : FL[653]? = some (Cond.not (Cond.eq (sTm 2) (sTm 13))) := by decide +kernel
theorem fn_2_14 : FL[683]? = some (Cond.not (Cond.eq (sTm 2) (sTm 14))) := by decide +kernel
theorem fn_3_4 : FL[817]? = some (Cond.not (Cond.eq (sTm 3) (sTm 4))) := by decide +kernel
theorem fn_3_5 : FL[839]? = some (Cond.not (Cond.eq (sTm 3) (sTm 5))) := by decide +kernel
theorem fn_3_6 : FL[862]? = some (Cond.not (Cond.eq (sTm 3) (sTm 6))) := by decide +kernel
theorem fn_3_7 : FL[887]? = some (Cond.not (Cond.eq (sTm 3) (sTm 7))) := by decide +kernel
theorem fn_3_8 : FL[913]? = some (Cond.not (Cond.eq (sTm 3) (sTm 8))) := by decide +kernel
theorem fn_3_9 : FL[939]? = some (Cond.not (Cond.eq (sTm 3) (sTm 9))) := by decide +kernel
theorem fn_3_10 : FL[966]? = some (Cond.not (Cond.eq (sTm 3) (sTm 10))) := by decide +kernel
theorem fn_3_11 : FL[994]? = some (Cond.not (Cond.eq (sTm 3) (sTm 11))) := by decide +kernel
theorem fn_3_12 : FL[789]? = some (Cond.not (Cond.eq (sTm 12) (sTm 3))) := by decide +kernel
theorem fn_3_13 : FL[790]? = some (Cond.not (Cond.eq (sTm 13) (sTm 3))) := by decide +kernel
theorem fn_3_14 : FL[791]? = some (Cond.not (Cond.eq (sTm 14) (sTm 3))) := by decide +kernel
theorem fn_4_5 : FL[840]? = some (Cond.not (Cond.eq (sTm 4) (sTm 5))) := by decide +kernel
theorem fn_4_6 : FL[863]? = some (Cond.not (Cond.eq (sTm 4) (sTm 6))) := by decide +kernel
theorem fn_4_7 : FL[888]? = some (Cond.not (Cond.eq (sTm 4) (sTm 7))) := by decide +kernel
theorem fn_4_8 : FL[914]? = some (Cond.not (Cond.eq (sTm 4) (sTm 8))) := by decide +kernel
theorem fn_4_9 : FL[940]? = some (Cond.not (Cond.eq (sTm 4) (sTm 9))) := by decide +kernel
theorem fn_4_10 : FL[967]? = some (Cond.not (Cond.eq (sTm 4) (sTm 10))) := by decide +kernel
theorem fn_4_11 : FL[995]? = some (Cond.not (Cond.eq (sTm 4) (sTm 11))) := by decide +kernel
theorem fn_4_12 : FL[810]? = some (Cond.not (Cond.eq (sTm 12) (sTm 4))) := by decide +kernel
theorem fn_4_13 : FL[811]? = some (Cond.not (Cond.eq (sTm 13) (sTm 4))) := by decide +kernel
theorem fn_4_14 : FL[812]? = some (Cond.not (Cond.eq (sTm 14) (sTm 4))) := by decide +kernel
theorem fn_5_6 : FL[864]? = some (Cond.not (Cond.eq (sTm 5) (sTm 6))) := by decide +kernel
theorem fn_5_7 : FL[889]? = some (Cond.not (Cond.eq (sTm 5) (sTm 7))) := by decide +kernel
theorem fn_5_8 : FL[915]? = some (Cond.not (Cond.eq (sTm 5) (sTm 8))) := by decide +kernel
theorem fn_5_9 : FL[941]? = some (Cond.not (Cond.eq (sTm 5) (sTm 9))) := by decide +kernel
theorem fn_5_10 : FL[968]? = some (Cond.not (Cond.eq (sTm 5) (sTm 10))) := by decide +kernel
theorem fn_5_11 : FL[996]? = some (Cond.not (Cond.eq (sTm 5) (sTm 11))) := by decide +kernel
theorem fn_5_12 : FL[832]? = some (Cond.not (Cond.eq (sTm 12) (sTm 5))) := by decide +kernel
theorem fn_5_13 : FL[833]? = some (Cond.not (Cond.eq (sTm 13) (sTm 5))) := by decide +kernel
theorem fn_5_14 : FL[834]? = some (Cond.not (Cond.eq (sTm 14) (sTm 5))) := by decide +kernel
theorem fn_6_7 : FL[890]? = some (Cond.not (Cond.eq (sTm 6) (sTm 7))) := by decide +kernel
theorem fn_6_8 : FL[916]? = some (Cond.not (Cond.eq (sTm 6) (sTm 8))) := by decide +kernel
theorem fn_6_9 : FL[942]? = some (Cond.not (Cond.eq (sTm 6) (sTm 9))) := by decide +kernel
theorem fn_6_10 : FL[969]? = some (Cond.not (Cond.eq (sTm 6) (sTm 10))) := by decide +kernel
theorem fn_6_11 : FL[997]? = some (Cond.not (Cond.eq (sTm 6) (sTm 11))) := by decide +kernel
theorem fn_6_12 : FL[855]? = some (Cond.not (Cond.eq (sTm 12) (sTm 6))) := by decide +kernel
theorem fn_6_13 : FL[856]? = some (Cond.not (Cond.eq (sTm 13) (sTm 6))) := by decide +kernel
theorem fn_6_14 : FL[857]? = some (Cond.not (Cond.eq (sTm 14) (sTm 6))) := by decide +kernel
theorem fn_7_8 : FL[917]? = some (Cond.not (Cond.eq (sTm 7) (sTm 8))) := by decide +kernel
theorem fn_7_9 : FL[943]? = some (Cond.not (Cond.eq (sTm 7) (sTm 9))) := by decide +kernel
theorem fn_7_10 : FL[970]? = some (Cond.not (Cond.eq (sTm 7) (sTm 10))) := by decide +kernel
theorem fn_7_11 : FL[998]? = some (Cond.not (Cond.eq (sTm 7) (sTm 11))) := by decide +kernel
theorem fn_7_12 : FL[880]? = some (Cond.not (Cond.eq (sTm 12) (sTm 7))) := by decide +kernel
theorem fn_7_13 : FL[881]? = some (Cond.not (Cond.eq (sTm 13) (sTm 7))) := by decide +kernel
theorem fn_7_14 : FL[882]? = some (Cond.not (Cond.eq (sTm 14) (sTm 7))) := by decide +kernel
theorem fn_8_9 : FL[944]? = some (Cond.not (Cond.eq (sTm 8) (sTm 9))) := by decide +kernel
theorem fn_8_10 : FL[971]? = some (Cond.not (Cond.eq (sTm 8) (sTm 10))) := by decide +kernel
theorem fn_8_11 : FL[999]? = some (Cond.not (Cond.eq (sTm 8) (sTm 11))) := by decide +kernel
theorem fn_8_12 : FL[906]? = some (Cond.not (Cond.eq (sTm 12) (sTm 8))) := by decide +kernel
theorem fn_8_13 : FL[907]? = some (Cond.not (Cond.eq (sTm 13) (sTm 8))) := by decide +kernel
theorem fn_8_14 : FL[908]? = some (Cond.not (Cond.eq (sTm 14) (sTm 8))) := by decide +kernel
theorem fn_9_10 : FL[972]? = some (Cond.not (Cond.eq (sTm 9) (sTm 10))) := by decide +kernel
theorem fn_9_11 : FL[1000]? = some (Cond.not (Cond.eq (sTm 9) (sTm 11))) := by decide +kernel
theorem fn_9_12 : FL[932]? = some (Cond.not (Cond.eq (sTm 12) (sTm 9))) := by decide +kernel
theorem fn_9_13 : FL[933]? = some (Cond.not (Cond.eq (sTm 13) (sTm 9))) := by decide +kernel
theorem fn_9_14 : FL[934]? = some (Cond.not (Cond.eq (sTm 14) (sTm 9))) := by decide +kernel
theorem fn_10_11 : FL[1001]? = some (Cond.not (Cond.eq (sTm 10) (sTm 11))) := by decide +kernel
theorem fn_10_12 : FL[959]? = some (Cond.not (Cond.eq (sTm 12) (sTm 10))) := by decide +kernel
theorem fn_10_13 : FL[960]? = some (Cond.not (Cond.eq (sTm 13) (sTm 10))) := by decide +kernel
theorem fn_10_14 : FL[961]? = some (Cond.not (Cond.eq (sTm 14) (sTm 10))) := by decide +kernel
theorem fn_11_12 : FL[987]? = some (Cond.not (Cond.eq (sTm 12) (sTm 11))) := by decide +kernel
theorem fn_11_13 : FL[988]? = some (Cond.not (Cond.eq (sTm 13) (sTm 11))) := by decide +kernel
theorem fn_11_14 : FL[989]? = some (Cond.not (Cond.eq (sTm 14) (sTm 11))) := by decide +kernel
theorem fn_12_13 : FL[657]? = some (Cond.not (Cond.eq (sTm 12) (sTm 13))) := by decide +kernel
theorem fn_12_14 : FL[687]? = some (Cond.not (Cond.eq (sTm 12) (sTm 14))) := by decide +kernel
theorem fn_13_14 : FL[688]? = some (Cond.not (Cond.eq (sTm 13) (sTm 14))) := by decide +kernel
theorem fn_lt : ∀ i j : Nat, i < j → j < 15 → Cond.not (Cond.eq (sTm i) (sTm j)) ∈ FL ∨ Cond.not (Cond.eq (sTm j) (sTm i)) ∈ FL := by
  intro i j hij hj
  have hc : i = 0 ∨ i = 1 ∨ i = 2 ∨ i = 3 ∨ i = 4 ∨ i = 5 ∨ i = 6 ∨ i = 7 ∨ i = 8 ∨ i = 9 ∨ i = 10 ∨ i = 11 ∨ i = 12 ∨ i = 13 := by omega
  rcases hc with rfl | rfl | rfl | rfl | rfl | rfl | rfl | rfl | rfl | rfl | rfl | rfl | rfl | rfl
  · have hd : j = 1 ∨ j = 2 ∨ j = 3 ∨ j = 4 ∨ j = 5 ∨ j = 6 ∨ j = 7 ∨ j = 8 ∨ j = 9 ∨ j = 10 ∨ j = 11 ∨ j = 12 ∨ j = 13 ∨ j = 14 := by omega
    rcases hd with rfl | rfl | rfl | rfl | rfl | rfl | rfl | rfl | rfl | rfl | rfl | rfl | rfl | rfl
    · exact Or.inl (List.mem_of_getElem? fn_0_1)
    · exact Or.inl (List.mem_of_getElem? fn_0_2)
    · exact Or.inl (List.mem_of_getElem? fn_0_3)
    · exact Or.inl (List.mem_of_getElem? fn_0_4)
    · exact Or.inl (List.mem_of_getElem? fn_0_5)
    · exact Or.inl (List.mem_of_getElem? fn_0_6)
    · exact Or.inl (List.mem_of_getElem? fn_0_7)
    · exact Or.inl (List.mem_of_getElem? fn_0_8)
    · exact Or.inl (List.mem_of_getElem? fn_0_9)
    · exact Or.inl (List.mem_of_getElem? fn_0_10)
    · exact Or.inl (List.mem_of_getElem? fn_0_11)
    · exact Or.inl (List.mem_of_getElem? fn_0_12)
    · exact Or.inl (List.mem_of_getElem? fn_0_13)
    · exact Or.inl (List.mem_of_getElem? fn_0_14)
  · have hd : j = 2 ∨ j = 3 ∨ j = 4 ∨ j = 5 ∨ j = 6 ∨ j = 7 ∨ j = 8 ∨ j = 9 ∨ j = 10 ∨ j = 11 ∨ j = 12 ∨ j = 13 ∨ j = 14 := by omega
    rcases hd with rfl | rfl | rfl | rfl | rfl | rfl | rfl | rfl | rfl | rfl | rfl | rfl | rfl
    · exact Or.inl (List.mem_of_getElem? fn_1_2)
    · exact Or.inl (List.mem_of_getElem? fn_1_3)
    · exact Or.inl (List.mem_of_getElem? fn_1_4)
    · exact Or.inl (List.mem_of_getElem? fn_1_5)
    · exact Or.inl (List.mem_of_getElem? fn_1_6)
    · exact Or.inl (List.mem_of_getElem? fn_1_7)
    · exact Or.inl (List.mem_of_getElem? fn_1_8)
    · exact Or.inl (List.mem_of_getElem? fn_1_9)
    · exact Or.inl (List.mem_of_getElem? fn_1_10)
    · exact Or.inl (List.mem_of_getElem? fn_1_11)
    · exact Or.inl (List.mem_of_getElem? fn_1_12)
    · exact Or.inl (List.mem_of_getElem? fn_1_13)
    · exact Or.inl (List.mem_of_getElem? fn_1_14)
  · have hd : j = 3 ∨ j = 4 ∨ j = 5 ∨ j = 6 ∨ j = 7 ∨ j = 8 ∨ j = 9 ∨ j = 10 ∨ j = 11 ∨ j = 12 ∨ j = 13 ∨ j = 14 := by omega
    rcases hd with rfl | rfl | rfl | rfl | rfl | rfl | rfl | rfl | rfl | rfl | rfl | rfl
    · exact Or.inl (List.mem_of_getElem? fn_2_3)
    · exact Or.inl (List.mem_of_getElem? fn_2_4)
    · exact Or.inl (List.mem_of_getElem? fn_2_5)
    · exact Or.inl (List.mem_of_getElem? fn_2_6)
    · exact Or.inl (List.mem_of_getElem? fn_2_7)
    · exact Or.inl (List.mem_of_getElem? fn_2_8)
    · exact Or.inl (List.mem_of_getElem? fn_2_9)
    · exact Or.inl (List.mem_of_getElem? fn_2_10)
    · exact Or.inl (List.mem_of_getElem? fn_2_11)
    · exact Or.inl (List.mem_of_getElem? fn_2_12)
    · exact Or.inl (List.mem_of_getElem? fn_2_13)
    · exact Or.inl (List.mem_of_getElem? fn_2_14)
  · have hd : j = 4 ∨ j = 5 ∨ j = 6 ∨ j = 7 ∨ j = 8 ∨ j = 9 ∨ j = 10 ∨ j = 11 ∨ j = 12 ∨ j = 13 ∨ j = 14 := by omega
    rcases hd with rfl | rfl | rfl | rfl | rfl | rfl | rfl | rfl | rfl | rfl | rfl
    · exact Or.inl (List.mem_of_getElem? fn_3_4)
    · exact Or.inl (List.mem_of_getElem? fn_3_5)
    · exact Or.inl (List.mem_of_getElem? fn_3_6)
    · exact Or.inl (List.mem_of_getElem? fn_3_7)
    · exact Or.inl (List.mem_of_getElem? fn_3_8)
    · exact Or.inl (List.mem_of_getElem? fn_3_9)
    · exact Or.inl (List.mem_of_getElem? fn_3_10)
    · exact Or.inl (List.mem_of_getElem? fn_3_11)
    · exact Or.inr (List.mem_of_getElem? fn_3_12)
    · exact Or.inr (List.mem_of_getElem? fn_3_13)
    · exact Or.inr (List.mem_of_getElem? fn_3_14)
  · have hd : j = 5 ∨ j = 6 ∨ j = 7 ∨ j = 8 ∨ j = 9 ∨ j = 10 ∨ j = 11 ∨ j = 12 ∨ j = 13 ∨ j = 14 := by omega
    rcases hd with rfl | rfl | rfl | rfl | rfl | rfl | rfl | rfl | rfl | rfl
    · exact Or.inl (List.mem_of_getElem? fn_4_5)
    · exact Or.inl (List.mem_of_getElem? fn_4_6)
    · exact Or.inl (List.mem_of_getElem? fn_4_7)
    · exact Or.inl (List.mem_of_getElem? fn_4_8)
    · exact Or.inl (List.mem_of_getElem? fn_4_9)
    · exact Or.inl (List.mem_of_getElem? fn_4_10)
    · exact Or.inl (List.mem_of_getElem? fn_4_11)
    · exact Or.inr (List.mem_of_getElem? fn_4_12)
    · exact Or.inr (List.mem_of_getElem? fn_4_13)
    · exact Or.inr (List.mem_of_getElem? fn_4_14)
  · have hd : j = 6 ∨ j = 7 ∨ j = 8 ∨ j = 9 ∨ j = 10 ∨ j = 11 ∨ j = 12 ∨ j = 13 ∨ j = 14 := by omega
    rcases hd with rfl | rfl | rfl | rfl | rfl | rfl | rfl | rfl | rfl
    · exact Or.inl (List.mem_of_getElem? fn_5_6)
    · exact Or.inl (List.mem_of_getElem? fn_5_7)
    · exact Or.inl (List.mem_of_getElem? fn_5_8)
    · exact Or.inl (List.mem_of_getElem? fn_5_9)
    · exact Or.inl (List.mem_of_getElem? fn_5_10)
    · exact Or.inl (List.mem_of_getElem? fn_5_11)
    · exact Or.inr (List.mem_of_getElem? fn_5_12)
    · exact Or.inr (List.mem_of_getElem? fn_5_13)
    · exact Or.inr (List.mem_of_getElem? fn_5_14)
  · have hd : j = 7 ∨ j = 8 ∨ j = 9 ∨ j = 10 ∨ j = 11 ∨ j = 12 ∨ j = 13 ∨ j = 14 := by omega
    rcases hd with rfl | rfl | rfl | rfl | rfl | rfl | rfl | rfl
    · exact Or.inl (List.mem_of_getElem? fn_6_7)
    · exact Or.inl (List.mem_of_getElem? fn_6_8)
    · exact Or.inl (List.mem_of_getElem? fn_6_9)
    · exact Or.inl (List.mem_of_getElem? fn_6_10)
    · exact Or.inl (List.mem_of_getElem? fn_6_11)
    · exact Or.inr (List.mem_of_getElem? fn_6_12)
    · exact Or.inr (List.mem_of_getElem? fn_6_13)
    · exact Or.inr (List.mem_of_getElem? fn_6_14)
  · have hd : j = 8 ∨ j = 9 ∨ j = 10 ∨ j = 11 ∨ j = 12 ∨ j = 13 ∨ j = 14 := by omega
    rcases hd with rfl | rfl | rfl | rfl | rfl | rfl | rfl
    · exact Or.inl (List.mem_of_getElem? fn_7_8)
    · exact Or.inl (List.mem_of_getElem? fn_7_9)
    · exact Or.inl (List.mem_of_getElem? fn_7_10)
    · exact Or.inl (List.mem_of_getElem? fn_7_11)
    · exact Or.inr (List.mem_of_getElem? fn_7_12)
    · exact Or.inr (List.mem_of_getElem? fn_7_13)
    · exact Or.inr (List.mem_of_getElem? fn_7_14)
  · have hd : j = 9 ∨ j = 10 ∨ j = 11 ∨ j = 12 ∨ j = 13 ∨ j = 14 := by omega
    rcases hd with rfl | rfl | rfl | rfl | rfl | rfl
    · exact Or.inl (List.mem_of_getElem? fn_8_9)
    · exact Or.inl (List.mem_of_getElem? fn_8_10)
    · exact Or.inl (List.mem_of_getElem? fn_8_11)
    · exact Or.inr (List.mem_of_getElem? fn_8_12)
    · exact Or.inr (List.mem_of_getElem? fn_8_13)
    · exact Or.inr (List.mem_of_getElem? fn_8_14)
  · have hd : j = 10 ∨ j = 11 ∨ j = 12 ∨ j = 13 ∨ j = 14 := by omega
    rcases hd with rfl | rfl | rfl | rfl | rfl
    · exact Or.inl (List.mem_of_getElem? fn_9_10)
    · exact Or.inl (List.mem_of_getElem? fn_9_11)
    · exact Or.inr (List.mem_of_getElem? fn_9_12)
    · exact Or.inr (List.mem_of_getElem? fn_9_13)
    · exact Or.inr (List.mem_of_getElem? fn_9_14)
  · have hd : j = 11 ∨ j = 12 ∨ j = 13 ∨ j = 14 := by omega
    rcases hd with rfl | rfl | rfl | rfl
    · exact Or.inl (List.mem_of_getElem? fn_10_11)
    · exact Or.inr (List.mem_of_getElem? fn_10_12)
    · exact Or.inr (List.mem_of_getElem? fn_10_13)
    · exact Or.inr (List.mem_of_getElem? fn_10_14)
  · have hd : j = 12 ∨ j = 13 ∨ j = 14 := by omega
    rcases hd with rfl | rfl | rfl
    · exact Or.inr (List.mem_of_getElem? fn_11_12)
    · exact Or.inr (List.mem_of_getElem? fn_11_13)
    · exact Or.inr (List.mem_of_getElem? fn_11_14)
  · have hd : j = 13 ∨ j = 14 := by omega
    rcases hd with rfl | rfl
    · exact Or.inl (List.mem_of_getElem? fn_12_13)
    · exact Or.inl (List.mem_of_getElem? fn_12_14)
  · have hd : j = 14 := by omega
    subst hd
    exact Or.inl (List.mem_of_getElem? fn_13_14)
theorem fn_all : ∀ i : Nat, i < 15 → ∀ j : Nat, j < 15 → i ≠ j → Cond.not (Cond.eq (sTm i) (sTm j)) ∈ FL ∨ Cond.not (Cond.eq (sTm j) (sTm i)) ∈ FL := by
  intro i hi j hj hij
  rcases Nat.lt_or_gt_of_ne hij with h | h
  · exact fn_lt i j h hj
  · exact (fn_lt j i h hi).symm

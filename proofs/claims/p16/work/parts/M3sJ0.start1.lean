def FL : List Cond := flatC (Jvm.Cond.and given_1 narrow_1)
def sTm (i : Nat) : Term := Term.string (sOwn.getD i ("", 0, "")).1 (sOwn.getD i ("", 0, "")).2.1
def sEl (i j : Nat) : Cond := Cond.eq (.elem (.field (sTm i) "java/lang/String" "value" "[B") (.int (Int32.ofNat j))) (.int ((sByt.getD i []).getD j 0))
theorem fe_0 : ((FL.drop 260).take 100) = (List.range 100).map (sEl 0) := by decide +kernel
theorem fe_1 : ((FL.drop 364).take 71) = (List.range 71).map (sEl 1) := by decide +kernel
theorem fe_2 : ((FL.drop 440).take 49) = (List.range 49).map (sEl 2) := by decide +kernel
theorem fe_3 : ((FL.drop 777).take 6) = (List.range 6).map (sEl 3) := by decide +kernel
theorem fe_4 : ((FL.drop 800).take 4) = (List.range 4).map (sEl 4) := by decide +kernel
theorem fe_5 : ((FL.drop 822).take 4) = (List.range 4).map (sEl 5) := by decide +kernel
theorem fe_6 : ((FL.drop 845).take 4) = (List.range 4).map (sEl 6) := by decide +kernel
theorem fe_7 : ((FL.drop 869).take 5) = (List.range 5).map (sEl 7) := by decide +kernel
theorem fe_8 : ((FL.drop 895).take 5) = (List.range 5).map (sEl 8) := by decide +kernel
theorem fe_9 : ((FL.drop 922).take 4) = (List.range 4).map (sEl 9) := by decide +kernel
theorem fe_10 : ((FL.drop 949).take 4) = (List.range 4).map (sEl 10) := by decide +kernel
theorem fe_11 : ((FL.drop 977).take 4) = (List.range 4).map (sEl 11) := by decide +kernel
theorem fe_12 : ((FL.drop 579).take 22) = (List.range 22).map (sEl 12) := by decide +kernel
theorem fe_13 : ((FL.drop 611).take 40) = (List.range 40).map (sEl 13) := by decide +kernel
theorem fe_14 : ((FL.drop 662).take 19) = (List.range 19).map (sEl 14) := by decide +kernel
theorem fe_15 : ((FL.drop 495).take 16) = (List.range 16).map (sEl 15) := by decide +kernel
theorem fe_16 : ((FL.drop 518).take 24) = (List.range 24).map (sEl 16) := by decide +kernel
theorem fe_17 : ((FL.drop 550).take 20) = (List.range 20).map (sEl 17) := by decide +kernel
theorem fe_18 : ((FL.drop 1006).take 171) = (List.range 171).map (sEl 18) := by decide +kernel
theorem fe_in {i p n : Nat} (h : ((FL.drop p).take n) = (List.range n).map (sEl i)) {j : Nat} (hj : j < n) : sEl i j ∈ FL := by
  have h1 : sEl i j ∈ (List.range n).map (sEl i) := List.mem_map.mpr ⟨j, List.mem_range.mpr hj, rfl⟩
  rw [← h] at h1
  exact List.mem_of_mem_drop (List.mem_of_mem_take h1)
theorem fe_all : ∀ i : Nat, i < 19 → ∀ j : Nat, j < sLen.getD i 0 → sEl i j ∈ FL := by
  intro i hi j hj
  have hc : i = 0 ∨ i = 1 ∨ i = 2 ∨ i = 3 ∨ i = 4 ∨ i = 5 ∨ i = 6 ∨ i = 7 ∨ i = 8 ∨ i = 9 ∨ i = 10 ∨ i = 11 ∨ i = 12 ∨ i = 13 ∨ i = 14 ∨ i = 15 ∨ i = 16 ∨ i = 17 ∨ i = 18 := by omega
  rcases hc with rfl | rfl | rfl | rfl | rfl | rfl | rfl | rfl | rfl | rfl | rfl | rfl | rfl | rfl | rfl | rfl | rfl | rfl | rfl
  · exact fe_in fe_0 (by rw [show sLen.getD 0 0 = 100 by decide +kernel] at hj; exact hj)
  · exact fe_in fe_1 (by rw [show sLen.getD 1 0 = 71 by decide +kernel] at hj; exact hj)
  · exact fe_in fe_2 (by rw [show sLen.getD 2 0 = 49 by decide +kernel] at hj; exact hj)
  · exact fe_in fe_3 (by rw [show sLen.getD 3 0 = 6 by decide +kernel] at hj; exact hj)
  · exact fe_in fe_4 (by rw [show sLen.getD 4 0 = 4 by decide +kernel] at hj; exact hj)
  · exact fe_in fe_5 (by rw [show sLen.getD 5 0 = 4 by decide +kernel] at hj; exact hj)
  · exact fe_in fe_6 (by rw [show sLen.getD 6 0 = 4 by decide +kernel] at hj; exact hj)
  · exact fe_in fe_7 (by rw [show sLen.getD 7 0 = 5 by decide +kernel] at hj; exact hj)
  · exact fe_in fe_8 (by rw [show sLen.getD 8 0 = 5 by decide +kernel] at hj; exact hj)
  · exact fe_in fe_9 (by rw [show sLen.getD 9 0 = 4 by decide +kernel] at hj; exact hj)
  · exact fe_in fe_10 (by rw [show sLen.getD 10 0 = 4 by decide +kernel] at hj; exact hj)
  · exact fe_in fe_11 (by rw [show sLen.getD 11 0 = 4 by decide +kernel] at hj; exact hj)
  · exact fe_in fe_12 (by rw [show sLen.getD 12 0 = 22 by decide +kernel] at hj; exact hj)
  · exact fe_in fe_13 (by rw [show sLen.getD 13 0 = 40 by decide +kernel] at hj; exact hj)
  · exact fe_in fe_14 (by rw [show sLen.getD 14 0 = 19 by decide +kernel] at hj; exact hj)
  · exact fe_in fe_15 (by rw [show sLen.getD 15 0 = 16 by decide +kernel] at hj; exact hj)
  · exact fe_in fe_16 (by rw [show sLen.getD 16 0 = 24 by decide +kernel] at hj; exact hj)
  · exact fe_in fe_17 (by rw [show sLen.getD 17 0 = 20 by decide +kernel] at hj; exact hj)
  · exact fe_in fe_18 (by rw [show sLen.getD 18 0 = 171 by decide +kernel] at hj; exact hj)
theorem fx_all : ∀ i : Nat, i < 19 → Cond.exactly (sTm i) "java/lang/String" ∈ FL := by decide +kernel
theorem fc_all : ∀ i : Nat, i < 19 → Cond.eq (.field (sTm i) "java/lang/String" "coder" "B") (.int 0) ∈ FL := by decide +kernel
theorem fa_all : ∀ i : Nat, i < 19 → Cond.arrayOf (.field (sTm i) "java/lang/String" "value" "[B") .byte ∈ FL := by decide +kernel
theorem fl_all : ∀ i : Nat, i < 19 → Cond.eq (.length (.field (sTm i) "java/lang/String" "value" "[B")) (.int (Int32.ofNat (sLen.getD i 0))) ∈ FL := by decide +kernel
theorem fn_0_1 : FL[435]? = some (Cond.not (Cond.eq (sTm 0) (sTm 1))) := by decide +kernel
theorem fn_0_2 : FL[489]? = some (Cond.not (Cond.eq (sTm 0) (sTm 2))) := by decide +kernel
theorem fn_0_3 : FL[783]? = some (Cond.not (Cond.eq (sTm 0) (sTm 3))) := by decide +kernel
theorem fn_0_4 : FL[804]? = some (Cond.not (Cond.eq (sTm 0) (sTm 4))) := by decide +kernel
theorem fn_0_5 : FL[826]? = some (Cond.not (Cond.eq (sTm 0) (sTm 5))) := by decide +kernel
theorem fn_0_6 : FL[849]? = some (Cond.not (Cond.eq (sTm 0) (sTm 6))) := by decide +kernel
theorem fn_0_7 : FL[874]? = some (Cond.not (Cond.eq (sTm 0) (sTm 7))) := by decide +kernel
theorem fn_0_8 : FL[900]? = some (Cond.not (Cond.eq (sTm 0) (sTm 8))) := by decide +kernel
theorem fn_0_9 : FL[926]? = some (Cond.not (Cond.eq (sTm 0) (sTm 9))) := by decide +kernel
theorem fn_0_10 : FL[953]? = some (Cond.not (Cond.eq (sTm 0) (sTm 10))) := by decide +kernel
theorem fn_0_11 : FL[981]? = some (Cond.not (Cond.eq (sTm 0) (sTm 11))) := by decide +kernel
theorem fn_0_12 : FL[601]? = some (Cond.not (Cond.eq (sTm 0) (sTm 12))) := by decide +kernel
theorem fn_0_13 : FL[651]? = some (Cond.not (Cond.eq (sTm 0) (sTm 13))) := by decide +kernel
theorem fn_0_14 : FL[681]? = some (Cond.not (Cond.eq (sTm 0) (sTm 14))) := by decide +kernel
theorem fn_0_15 : FL[511]? = some (Cond.not (Cond.eq (sTm 0) (sTm 15))) := by decide +kernel
theorem fn_0_16 : FL[542]? = some (Cond.not (Cond.eq (sTm 0) (sTm 16))) := by decide +kernel
theorem fn_0_17 : FL[570]? = some (Cond.not (Cond.eq (sTm 0) (sTm 17))) := by decide +kernel
theorem fn_0_18 : FL[1177]? = some (Cond.not (Cond.eq (sTm 0) (sTm 18))) := by decide +kernel
theorem fn_1_2 : FL[490]? = some (Cond.not (Cond.eq (sTm 1) (sTm 2))) := by decide +kernel
theorem fn_1_3 : FL[784]? = some (Cond.not (Cond.eq (sTm 1) (sTm 3))) := by decide +kernel
theorem fn_1_4 : FL[805]? = some (Cond.not (Cond.eq (sTm 1) (sTm 4))) := by decide +kernel
theorem fn_1_5 : FL[827]? = some (Cond.not (Cond.eq (sTm 1) (sTm 5))) := by decide +kernel
theorem fn_1_6 : FL[850]? = some (Cond.not (Cond.eq (sTm 1) (sTm 6))) := by decide +kernel
theorem fn_1_7 : FL[875]? = some (Cond.not (Cond.eq (sTm 1) (sTm 7))) := by decide +kernel
theorem fn_1_8 : FL[901]? = some (Cond.not (Cond.eq (sTm 1) (sTm 8))) := by decide +kernel
theorem fn_1_9 : FL[927]? = some (Cond.not (Cond.eq (sTm 1) (sTm 9))) := by decide +kernel
theorem fn_1_10 : FL[954]? = some (Cond.not (Cond.eq (sTm 1) (sTm 10))) := by decide +kernel
theorem fn_1_11 : FL[982]? = some (Cond.not (Cond.eq (sTm 1) (sTm 11))) := by decide +kernel
theorem fn_1_12 : FL[602]? = some (Cond.not (Cond.eq (sTm 1) (sTm 12))) := by decide +kernel
theorem fn_1_13 : FL[652]? = some (Cond.not (Cond.eq (sTm 1) (sTm 13))) := by decide +kernel
theorem fn_1_14 : FL[682]? = some (Cond.not (Cond.eq (sTm 1) (sTm 14))) := by decide +kernel
theorem fn_1_15 : FL[512]? = some (Cond.not (Cond.eq (sTm 1) (sTm 15))) := by decide +kernel
theorem fn_1_16 : FL[543]? = some (Cond.not (Cond.eq (sTm 1) (sTm 16))) := by decide +kernel
theorem fn_1_17 : FL[571]? = some (Cond.not (Cond.eq (sTm 1) (sTm 17))) := by decide +kernel
theorem fn_1_18 : FL[1178]? = some (Cond.not (Cond.eq (sTm 1) (sTm 18))) := by decide +kernel
theorem fn_2_3 : FL[785]? = some (Cond.not (Cond.eq (sTm 2) (sTm 3))) := by decide +kernel
theorem fn_2_4 : FL[806]? = some (Cond.not (Cond.eq (sTm 2) (sTm 4))) := by decide +kernel
theorem fn_2_5 : FL[828]? = some (Cond.not (Cond.eq (sTm 2) (sTm 5))) := by decide +kernel
theorem fn_2_6 : FL[851]? = some (Cond.not (Cond.eq (sTm 2) (sTm 6))) := by decide +kernel
theorem fn_2_7 : FL[876]? = some (Cond.not (Cond.eq (sTm 2) (sTm 7))) := by decide +kernel
theorem fn_2_8 : FL[902]? = some (Cond.not (Cond.eq (sTm 2) (sTm 8))) := by decide +kernel
theorem fn_2_9 : FL[928]? = some (Cond.not (Cond.eq (sTm 2) (sTm 9))) := by decide +kernel
theorem fn_2_10 : FL[955]? = some (Cond.not (Cond.eq (sTm 2) (sTm 10))) := by decide +kernel
theorem fn_2_11 : FL[983]? = some (Cond.not (Cond.eq (sTm 2) (sTm 11))) := by decide +kernel
theorem fn_2_12 : FL[603]? = some (Cond.not (Cond.eq (sTm 2) (sTm 12))) := by decide +kernel
theorem fn_2_13 : FL[653]? = some (Cond.not (Cond.eq (sTm 2) (sTm 13))) := by decide +kernel
theorem fn_2_14 : FL[683]? = some (Cond.not (Cond.eq (sTm 2) (sTm 14))) := by decide +kernel
theorem fn_2_15 : FL[513]? = some (Cond.not (Cond.eq (sTm 2) (sTm 15))) := by decide +kernel
theorem fn_2_16 : FL[544]? = some (Cond.not (Cond.eq (sTm 2) (sTm 16))) := by decide +kernel
theorem fn_2_17 : FL[572]? = some (Cond.not (Cond.eq (sTm 2) (sTm 17))) := by decide +kernel
theorem fn_2_18 : FL[1179]? = some (Cond.not (Cond.eq (sTm 2) (sTm 18))) := by decide +kernel
theorem fn_3_4 : FL[817]? = some (Cond.not (Cond.eq (sTm 3) (sTm 4))) := by decide +kernel
theorem fn_3_5 : FL[839]? = some (Cond.not (Cond.eq (sTm 3) (sTm 5))) := by decide +kernel
theorem fn_3_6 : FL[862]? = some (Cond.not (Cond.eq (sTm 3) (sTm 6))) := by decide +kernel
theorem fn_3_7 : FL[887]? = some (Cond.not (Cond.eq (sTm 3) (sTm 7))) := by decide +kernel
theorem fn_3_8 : FL[913]? = some (Cond.not (Cond.eq (sTm 3) (sTm 8))) := by decide +kernel
theorem fn_3_9 : FL[939]? = some (Cond.not (Cond.eq (sTm 3) (sTm 9))) := by decide +kernel
theorem fn_3_10 : FL[966]? = some (Cond.not (Cond.eq (sTm 3) (sTm 10))) := by decide +kernel
theorem fn_3_11 : FL[994]? = some (Cond.not (Cond.eq (sTm 3) (sTm 11))) := by decide +kernel
theorem fn_3_12 : FL[789]? = some (Cond.not (Cond.eq (sTm 12) (sTm 3))) := by decide +kernel
theorem fn_3_13 : FL[790]? = some (Cond.not (Cond.eq (sTm 13) (sTm 3))) := by decide +kernel
theorem fn_3_14 : FL[791]? = some (Cond.not (Cond.eq (sTm 14) (sTm 3))) := by decide +kernel
theorem fn_3_15 : FL[786]? = some (Cond.not (Cond.eq (sTm 15) (sTm 3))) := by decide +kernel
theorem fn_3_16 : FL[787]? = some (Cond.not (Cond.eq (sTm 16) (sTm 3))) := by decide +kernel
theorem fn_3_17 : FL[788]? = some (Cond.not (Cond.eq (sTm 17) (sTm 3))) := by decide +kernel
theorem fn_3_18 : FL[1190]? = some (Cond.not (Cond.eq (sTm 3) (sTm 18))) := by decide +kernel
theorem fn_4_5 : FL[840]? = some (Cond.not (Cond.eq (sTm 4) (sTm 5))) := by decide +kernel
theorem fn_4_6 : FL[863]? = some (Cond.not (Cond.eq (sTm 4) (sTm 6))) := by decide +kernel
theorem fn_4_7 : FL[888]? = some (Cond.not (Cond.eq (sTm 4) (sTm 7))) := by decide +kernel
theorem fn_4_8 : FL[914]? = some (Cond.not (Cond.eq (sTm 4) (sTm 8))) := by decide +kernel
theorem fn_4_9 : FL[940]? = some (Cond.not (Cond.eq (sTm 4) (sTm 9))) := by decide +kernel
theorem fn_4_10 : FL[967]? = some (Cond.not (Cond.eq (sTm 4) (sTm 10))) := by decide +kernel
theorem fn_4_11 : FL[995]? = some (Cond.not (Cond.eq (sTm 4) (sTm 11))) := by decide +kernel
theorem fn_4_12 : FL[810]? = some (Cond.not (Cond.eq (sTm 12) (sTm 4))) := by decide +kernel
theorem fn_4_13 : FL[811]? = some (Cond.not (Cond.eq (sTm 13) (sTm 4))) := by decide +kernel
theorem fn_4_14 : FL[812]? = some (Cond.not (Cond.eq (sTm 14) (sTm 4))) := by decide +kernel
theorem fn_4_15 : FL[807]? = some (Cond.not (Cond.eq (sTm 15) (sTm 4))) := by decide +kernel
theorem fn_4_16 : FL[808]? = some (Cond.not (Cond.eq (sTm 16) (sTm 4))) := by decide +kernel
theorem fn_4_17 : FL[809]? = some (Cond.not (Cond.eq (sTm 17) (sTm 4))) := by decide +kernel
theorem fn_4_18 : FL[1191]? = some (Cond.not (Cond.eq (sTm 4) (sTm 18))) := by decide +kernel
theorem fn_5_6 : FL[864]? = some (Cond.not (Cond.eq (sTm 5) (sTm 6))) := by decide +kernel
theorem fn_5_7 : FL[889]? = some (Cond.not (Cond.eq (sTm 5) (sTm 7))) := by decide +kernel
theorem fn_5_8 : FL[915]? = some (Cond.not (Cond.eq (sTm 5) (sTm 8))) := by decide +kernel
theorem fn_5_9 : FL[941]? = some (Cond.not (Cond.eq (sTm 5) (sTm 9))) := by decide +kernel
theorem fn_5_10 : FL[968]? = some (Cond.not (Cond.eq (sTm 5) (sTm 10))) := by decide +kernel
theorem fn_5_11 : FL[996]? = some (Cond.not (Cond.eq (sTm 5) (sTm 11))) := by decide +kernel
theorem fn_5_12 : FL[832]? = some (Cond.not (Cond.eq (sTm 12) (sTm 5))) := by decide +kernel
theorem fn_5_13 : FL[833]? = some (Cond.not (Cond.eq (sTm 13) (sTm 5))) := by decide +kernel
theorem fn_5_14 : FL[834]? = some (Cond.not (Cond.eq (sTm 14) (sTm 5))) := by decide +kernel
theorem fn_5_15 : FL[829]? = some (Cond.not (Cond.eq (sTm 15) (sTm 5))) := by decide +kernel
theorem fn_5_16 : FL[830]? = some (Cond.not (Cond.eq (sTm 16) (sTm 5))) := by decide +kernel
theorem fn_5_17 : FL[831]? = some (Cond.not (Cond.eq (sTm 17) (sTm 5))) := by decide +kernel
theorem fn_5_18 : FL[1192]? = some (Cond.not (Cond.eq (sTm 5) (sTm 18))) := by decide +kernel
theorem fn_6_7 : FL[890]? = some (Cond.not (Cond.eq (sTm 6) (sTm 7))) := by decide +kernel
theorem fn_6_8 : FL[916]? = some (Cond.not (Cond.eq (sTm 6) (sTm 8))) := by decide +kernel
theorem fn_6_9 : FL[942]? = some (Cond.not (Cond.eq (sTm 6) (sTm 9))) := by decide +kernel
theorem fn_6_10 : FL[969]? = some (Cond.not (Cond.eq (sTm 6) (sTm 10))) := by decide +kernel
theorem fn_6_11 : FL[997]? = some (Cond.not (Cond.eq (sTm 6) (sTm 11))) := by decide +kernel
theorem fn_6_12 : FL[855]? = some (Cond.not (Cond.eq (sTm 12) (sTm 6))) := by decide +kernel
theorem fn_6_13 : FL[856]? = some (Cond.not (Cond.eq (sTm 13) (sTm 6))) := by decide +kernel
theorem fn_6_14 : FL[857]? = some (Cond.not (Cond.eq (sTm 14) (sTm 6))) := by decide +kernel
theorem fn_6_15 : FL[852]? = some (Cond.not (Cond.eq (sTm 15) (sTm 6))) := by decide +kernel
theorem fn_6_16 : FL[853]? = some (Cond.not (Cond.eq (sTm 16) (sTm 6))) := by decide +kernel
theorem fn_6_17 : FL[854]? = some (Cond.not (Cond.eq (sTm 17) (sTm 6))) := by decide +kernel
theorem fn_6_18 : FL[1193]? = some (Cond.not (Cond.eq (sTm 6) (sTm 18))) := by decide +kernel
theorem fn_7_8 : FL[917]? = some (Cond.not (Cond.eq (sTm 7) (sTm 8))) := by decide +kernel
theorem fn_7_9 : FL[943]? = some (Cond.not (Cond.eq (sTm 7) (sTm 9))) := by decide +kernel
theorem fn_7_10 : FL[970]? = some (Cond.not (Cond.eq (sTm 7) (sTm 10))) := by decide +kernel
theorem fn_7_11 : FL[998]? = some (Cond.not (Cond.eq (sTm 7) (sTm 11))) := by decide +kernel
theorem fn_7_12 : FL[880]? = some (Cond.not (Cond.eq (sTm 12) (sTm 7))) := by decide +kernel
theorem fn_7_13 : FL[881]? = some (Cond.not (Cond.eq (sTm 13) (sTm 7))) := by decide +kernel
theorem fn_7_14 : FL[882]? = some (Cond.not (Cond.eq (sTm 14) (sTm 7))) := by decide +kernel
theorem fn_7_15 : FL[877]? = some (Cond.not (Cond.eq (sTm 15) (sTm 7))) := by decide +kernel
theorem fn_7_16 : FL[878]? = some (Cond.not (Cond.eq (sTm 16) (sTm 7))) := by decide +kernel
theorem fn_7_17 : FL[879]? = some (Cond.not (Cond.eq (sTm 17) (sTm 7))) := by decide +kernel
theorem fn_7_18 : FL[1194]? = some (Cond.not (Cond.eq (sTm 7) (sTm 18))) := by decide +kernel
theorem fn_8_9 : FL[944]? = some (Cond.not (Cond.eq (sTm 8) (sTm 9))) := by decide +kernel
theorem fn_8_10 : FL[971]? = some (Cond.not (Cond.eq (sTm 8) (sTm 10))) := by decide +kernel
theorem fn_8_11 : FL[999]? = some (Cond.not (Cond.eq (sTm 8) (sTm 11))) := by decide +kernel
theorem fn_8_12 : FL[906]? = some (Cond.not (Cond.eq (sTm 12) (sTm 8))) := by decide +kernel
theorem fn_8_13 : FL[907]? = some (Cond.not (Cond.eq (sTm 13) (sTm 8))) := by decide +kernel
theorem fn_8_14 : FL[908]? = some (Cond.not (Cond.eq (sTm 14) (sTm 8))) := by decide +kernel
theorem fn_8_15 : FL[903]? = some (Cond.not (Cond.eq (sTm 15) (sTm 8))) := by decide +kernel
theorem fn_8_16 : FL[904]? = some (Cond.not (Cond.eq (sTm 16) (sTm 8))) := by decide +kernel
theorem fn_8_17 : FL[905]? = some (Cond.not (Cond.eq (sTm 17) (sTm 8))) := by decide +kernel
theorem fn_8_18 : FL[1195]? = some (Cond.not (Cond.eq (sTm 8) (sTm 18))) := by decide +kernel
theorem fn_9_10 : FL[972]? = some (Cond.not (Cond.eq (sTm 9) (sTm 10))) := by decide +kernel
theorem fn_9_11 : FL[1000]? = some (Cond.not (Cond.eq (sTm 9) (sTm 11))) := by decide +kernel
theorem fn_9_12 : FL[932]? = some (Cond.not (Cond.eq (sTm 12) (sTm 9))) := by decide +kernel
theorem fn_9_13 : FL[933]? = some (Cond.not (Cond.eq (sTm 13) (sTm 9))) := by decide +kernel
theorem fn_9_14 : FL[934]? = some (Cond.not (Cond.eq (sTm 14) (sTm 9))) := by decide +kernel
theorem fn_9_15 : FL[929]? = some (Cond.not (Cond.eq (sTm 15) (sTm 9))) := by decide +kernel
theorem fn_9_16 : FL[930]? = some (Cond.not (Cond.eq (sTm 16) (sTm 9))) := by decide +kernel
theorem fn_9_17 : FL[931]? = some (Cond.not (Cond.eq (sTm 17) (sTm 9))) := by decide +kernel
theorem fn_9_18 : FL[1196]? = some (Cond.not (Cond.eq (sTm 9) (sTm 18))) := by decide +kernel
theorem fn_10_11 : FL[1001]? = some (Cond.not (Cond.eq (sTm 10) (sTm 11))) := by decide +kernel
theorem fn_10_12 : FL[959]? = some (Cond.not (Cond.eq (sTm 12) (sTm 10))) := by decide +kernel
theorem fn_10_13 : FL[960]? = some (Cond.not (Cond.eq (sTm 13) (sTm 10))) := by decide +kernel
theorem fn_10_14 : FL[961]? = some (Cond.not (Cond.eq (sTm 14) (sTm 10))) := by decide +kernel
theorem fn_10_15 : FL[956]? = some (Cond.not (Cond.eq (sTm 15) (sTm 10))) := by decide +kernel
theorem fn_10_16 : FL[957]? = some (Cond.not (Cond.eq (sTm 16) (sTm 10))) := by decide +kernel
theorem fn_10_17 : FL[958]? = some (Cond.not (Cond.eq (sTm 17) (sTm 10))) := by decide +kernel
theorem fn_10_18 : FL[1197]? = some (Cond.not (Cond.eq (sTm 10) (sTm 18))) := by decide +kernel
theorem fn_11_12 : FL[987]? = some (Cond.not (Cond.eq (sTm 12) (sTm 11))) := by decide +kernel
theorem fn_11_13 : FL[988]? = some (Cond.not (Cond.eq (sTm 13) (sTm 11))) := by decide +kernel
theorem fn_11_14 : FL[989]? = some (Cond.not (Cond.eq (sTm 14) (sTm 11))) := by decide +kernel
theorem fn_11_15 : FL[984]? = some (Cond.not (Cond.eq (sTm 15) (sTm 11))) := by decide +kernel
theorem fn_11_16 : FL[985]? = some (Cond.not (Cond.eq (sTm 16) (sTm 11))) := by decide +kernel
theorem fn_11_17 : FL[986]? = some (Cond.not (Cond.eq (sTm 17) (sTm 11))) := by decide +kernel
theorem fn_11_18 : FL[1198]? = some (Cond.not (Cond.eq (sTm 11) (sTm 18))) := by decide +kernel
theorem fn_12_13 : FL[657]? = some (Cond.not (Cond.eq (sTm 12) (sTm 13))) := by decide +kernel
theorem fn_12_14 : FL[687]? = some (Cond.not (Cond.eq (sTm 12) (sTm 14))) := by decide +kernel
theorem fn_12_15 : FL[604]? = some (Cond.not (Cond.eq (sTm 15) (sTm 12))) := by decide +kernel
theorem fn_12_16 : FL[605]? = some (Cond.not (Cond.eq (sTm 16) (sTm 12))) := by decide +kernel
theorem fn_12_17 : FL[606]? = some (Cond.not (Cond.eq (sTm 17) (sTm 12))) := by decide +kernel
theorem fn_12_18 : FL[1183]? = some (Cond.not (Cond.eq (sTm 12) (sTm 18))) := by decide +kernel
theorem fn_13_14 : FL[688]? = some (Cond.not (Cond.eq (sTm 13) (sTm 14))) := by decide +kernel
theorem fn_13_15 : FL[654]? = some (Cond.not (Cond.eq (sTm 15) (sTm 13))) := by decide +kernel
theorem fn_13_16 : FL[655]? = some (Cond.not (Cond.eq (sTm 16) (sTm 13))) := by decide +kernel
theorem fn_13_17 : FL[656]? = some (Cond.not (Cond.eq (sTm 17) (sTm 13))) := by decide +kernel
theorem fn_13_18 : FL[1184]? = some (Cond.not (Cond.eq (sTm 13) (sTm 18))) := by decide +kernel
theorem fn_14_15 : FL[684]? = some (Cond.not (Cond.eq (sTm 15) (sTm 14))) := by decide +kernel
theorem fn_14_16 : FL[685]? = some (Cond.not (Cond.eq (sTm 16) (sTm 14))) := by decide +kernel
theorem fn_14_17 : FL[686]? = some (Cond.not (Cond.eq (sTm 17) (sTm 14))) := by decide +kernel
theorem fn_14_18 : FL[1185]? = some (Cond.not (Cond.eq (sTm 14) (sTm 18))) := by decide +kernel
theorem fn_15_16 : FL[545]? = some (Cond.not (Cond.eq (sTm 15) (sTm 16))) := by decide +kernel
theorem fn_15_17 : FL[573]? = some (Cond.not (Cond.eq (sTm 15) (sTm 17))) := by decide +kernel
theorem fn_15_18 : FL[1180]? = some (Cond.not (Cond.eq (sTm 15) (sTm 18))) := by decide +kernel
theorem fn_16_17 : FL[574]? = some (Cond.not (Cond.eq (sTm 16) (sTm 17))) := by decide +kernel
theorem fn_16_18 : FL[1181]? = some (Cond.not (Cond.eq (sTm 16) (sTm 18))) := by decide +kernel
theorem fn_17_18 : FL[1182]? = some (Cond.not (Cond.eq (sTm 17) (sTm 18))) := by decide +kernel
theorem fn_lt : ∀ i j : Nat, i < j → j < 19 → Cond.not (Cond.eq (sTm i) (sTm j)) ∈ FL ∨ Cond.not (Cond.eq (sTm j) (sTm i)) ∈ FL := by
  intro i j hij hj
  have hc : i = 0 ∨ i = 1 ∨ i = 2 ∨ i = 3 ∨ i = 4 ∨ i = 5 ∨ i = 6 ∨ i = 7 ∨ i = 8 ∨ i = 9 ∨ i = 10 ∨ i = 11 ∨ i = 12 ∨ i = 13 ∨ i = 14 ∨ i = 15 ∨ i = 16 ∨ i = 17 := by omega
  rcases hc with rfl | rfl | rfl | rfl | rfl | rfl | rfl | rfl | rfl | rfl | rfl | rfl | rfl | rfl | rfl | rfl | rfl | rfl
  · have hd : j = 1 ∨ j = 2 ∨ j = 3 ∨ j = 4 ∨ j = 5 ∨ j = 6 ∨ j = 7 ∨ j = 8 ∨ j = 9 ∨ j = 10 ∨ j = 11 ∨ j = 12 ∨ j = 13 ∨ j = 14 ∨ j = 15 ∨ j = 16 ∨ j = 17 ∨ j = 18 := by omega
    rcases hd with rfl | rfl | rfl | rfl | rfl | rfl | rfl | rfl | rfl | rfl | rfl | rfl | rfl | rfl | rfl | rfl | rfl | rfl
    · exact Or.inl (List.mem_of_getElem? fn_0_1)
    · exact Or.inl (List.mem_of_getElem? fn_0_2)
    · exact Or.inl (List.mem_of_getElem? fn_0_3)
    · exact Or.inl (List.mem_of_getElem? fn_0_4)
    · exact Or.inl (List.mem_of_getElem? fn_0_5)
    · exact Or.inl (List.mem_of_getElem? fn_0_6)
    · exact Or.inl (List.mem_of_getElem? fn_0_7)
    · exact Or.inl (List.mem_of_getElem? fn_0_8)
    · exact Or.inl (List.mem_of_getElem? fn_0_9)
    · exact Or.inl (List.mem_of_getElem? fn_0_10)
    · exact Or.inl (List.mem_of_getElem? fn_0_11)
    · exact Or.inl (List.mem_of_getElem? fn_0_12)
    · exact Or.inl (List.mem_of_getElem? fn_0_13)
    · exact Or.inl (List.mem_of_getElem? fn_0_14)
    · exact Or.inl (List.mem_of_getElem? fn_0_15)
    · exact Or.inl (List.mem_of_getElem? fn_0_16)
    · exact Or.inl (List.mem_of_getElem? fn_0_17)
    · exact Or.inl (List.mem_of_getElem? fn_0_18)
  · have hd : j = 2 ∨ j = 3 ∨ j = 4 ∨ j = 5 ∨ j = 6 ∨ j = 7 ∨ j = 8 ∨ j = 9 ∨ j = 10 ∨ j = 11 ∨ j = 12 ∨ j = 13 ∨ j = 14 ∨ j = 15 ∨ j = 16 ∨ j = 17 ∨ j = 18 := by omega
    rcases hd with rfl | rfl | rfl | rfl | rfl | rfl | rfl | rfl | rfl | rfl | rfl | rfl | rfl | rfl | rfl | rfl | rfl
    · exact Or.inl (List.mem_of_getElem? fn_1_2)
    · exact Or.inl (List.mem_of_getElem? fn_1_3)
    · exact Or.inl (List.mem_of_getElem? fn_1_4)
    · exact Or.inl (List.mem_of_getElem? fn_1_5)
    · exact Or.inl (List.mem_of_getElem? fn_1_6)
    · exact Or.inl (List.mem_of_getElem? fn_1_7)
    · exact Or.inl (List.mem_of_getElem? fn_1_8)
    · exact Or.inl (List.mem_of_getElem? fn_1_9)
    · exact Or.inl (List.mem_of_getElem? fn_1_10)
    · exact Or.inl (List.mem_of_getElem? fn_1_11)
    · exact Or.inl (List.mem_of_getElem? fn_1_12)
    · exact Or.inl (List.mem_of_getElem? fn_1_13)
    · exact Or.inl (List.mem_of_getElem? fn_1_14)
    · exact Or.inl (List.mem_of_getElem? fn_1_15)
    · exact Or.inl (List.mem_of_getElem? fn_1_16)
    · exact Or.inl (List.mem_of_getElem? fn_1_17)
    · exact Or.inl (List.mem_of_getElem? fn_1_18)
  · have hd : j = 3 ∨ j = 4 ∨ j = 5 ∨ j = 6 ∨ j = 7 ∨ j = 8 ∨ j = 9 ∨ j = 10 ∨ j = 11 ∨ j = 12 ∨ j = 13 ∨ j = 14 ∨ j = 15 ∨ j = 16 ∨ j = 17 ∨ j = 18 := by omega
    rcases hd with rfl | rfl | rfl | rfl | rfl | rfl | rfl | rfl | rfl | rfl | rfl | rfl | rfl | rfl | rfl | rfl
    · exact Or.inl (List.mem_of_getElem? fn_2_3)
    · exact Or.inl (List.mem_of_getElem? fn_2_4)
    · exact Or.inl (List.mem_of_getElem? fn_2_5)
    · exact Or.inl (List.mem_of_getElem? fn_2_6)
    · exact Or.inl (List.mem_of_getElem? fn_2_7)
    · exact Or.inl (List.mem_of_getElem? fn_2_8)
    · exact Or.inl (List.mem_of_getElem? fn_2_9)
    · exact Or.inl (List.mem_of_getElem? fn_2_10)
    · exact Or.inl (List.mem_of_getElem? fn_2_11)
    · exact Or.inl (List.mem_of_getElem? fn_2_12)
    · exact Or.inl (List.mem_of_getElem? fn_2_13)
    · exact Or.inl (List.mem_of_getElem? fn_2_14)
    · exact Or.inl (List.mem_of_getElem? fn_2_15)
    · exact Or.inl (List.mem_of_getElem? fn_2_16)
    · exact Or.inl (List.mem_of_getElem? fn_2_17)
    · exact Or.inl (List.mem_of_getElem? fn_2_18)
  · have hd : j = 4 ∨ j = 5 ∨ j = 6 ∨ j = 7 ∨ j = 8 ∨ j = 9 ∨ j = 10 ∨ j = 11 ∨ j = 12 ∨ j = 13 ∨ j = 14 ∨ j = 15 ∨ j = 16 ∨ j = 17 ∨ j = 18 := by omega
    rcases hd with rfl | rfl | rfl | rfl | rfl | rfl | rfl | rfl | rfl | rfl | rfl | rfl | rfl | rfl | rfl
    · exact Or.inl (List.mem_of_getElem? fn_3_4)
    · exact Or.inl (List.mem_of_getElem? fn_3_5)
    · exact Or.inl (List.mem_of_getElem? fn_3_6)
    · exact Or.inl (List.mem_of_getElem? fn_3_7)
    · exact Or.inl (List.mem_of_getElem? fn_3_8)
    · exact Or.inl (List.mem_of_getElem? fn_3_9)
    · exact Or.inl (List.mem_of_getElem? fn_3_10)
    · exact Or.inl (List.mem_of_getElem? fn_3_11)
    · exact Or.inr (List.mem_of_getElem? fn_3_12)
    · exact Or.inr (List.mem_of_getElem? fn_3_13)
    · exact Or.inr (List.mem_of_getElem? fn_3_14)
    · exact Or.inr (List.mem_of_getElem? fn_3_15)
    · exact Or.inr (List.mem_of_getElem? fn_3_16)
    · exact Or.inr (List.mem_of_getElem? fn_3_17)
    · exact Or.inl (List.mem_of_getElem? fn_3_18)
  · have hd : j = 5 ∨ j = 6 ∨ j = 7 ∨ j = 8 ∨ j = 9 ∨ j = 10 ∨ j = 11 ∨ j = 12 ∨ j = 13 ∨ j = 14 ∨ j = 15 ∨ j = 16 ∨ j = 17 ∨ j = 18 := by omega
    rcases hd with rfl | rfl | rfl | rfl | rfl | rfl | rfl | rfl | rfl | rfl | rfl | rfl | rfl | rfl
    · exact Or.inl (List.mem_of_getElem? fn_4_5)
    · exact Or.inl (List.mem_of_getElem? fn_4_6)
    · exact Or.inl (List.mem_of_getElem? fn_4_7)
    · exact Or.inl (List.mem_of_getElem? fn_4_8)
    · exact Or.inl (List.mem_of_getElem? fn_4_9)
    · exact Or.inl (List.mem_of_getElem? fn_4_10)
    · exact Or.inl (List.mem_of_getElem? fn_4_11)
    · exact Or.inr (List.mem_of_getElem? fn_4_12)
    · exact Or.inr (List.mem_of_getElem? fn_4_13)
    · exact Or.inr (List.mem_of_getElem? fn_4_14)
    · exact Or.inr (List.mem_of_getElem? fn_4_15)
    · exact Or.inr (List.mem_of_getElem? fn_4_16)
    · exact Or.inr (List.mem_of_getElem? fn_4_17)
    · exact Or.inl (List.mem_of_getElem? fn_4_18)
  · have hd : j = 6 ∨ j = 7 ∨ j = 8 ∨ j = 9 ∨ j = 10 ∨ j = 11 ∨ j = 12 ∨ j = 13 ∨ j = 14 ∨ j = 15 ∨ j = 16 ∨ j = 17 ∨ j = 18 := by omega
    rcases hd with rfl | rfl | rfl | rfl | rfl | rfl | rfl | rfl | rfl | rfl | rfl | rfl | rfl
    · exact Or.inl (List.mem_of_getElem? fn_5_6)
    · exact Or.inl (List.mem_of_getElem? fn_5_7)
    · exact Or.inl (List.mem_of_getElem? fn_5_8)
    · exact Or.inl (List.mem_of_getElem? fn_5_9)
    · exact Or.inl (List.mem_of_getElem? fn_5_10)
    · exact Or.inl (List.mem_of_getElem? fn_5_11)
    · exact Or.inr (List.mem_of_getElem? fn_5_12)
    · exact Or.inr (List.mem_of_getElem? fn_5_13)
    · exact Or.inr (List.mem_of_getElem? fn_5_14)
    · exact Or.inr (List.mem_of_getElem? fn_5_15)
    · exact Or.inr (List.mem_of_getElem? fn_5_16)
    · exact Or.inr (List.mem_of_getElem? fn_5_17)
    · exact Or.inl (List.mem_of_getElem? fn_5_18)
  · have hd : j = 7 ∨ j = 8 ∨ j = 9 ∨ j = 10 ∨ j = 11 ∨ j = 12 ∨ j = 13 ∨ j = 14 ∨ j = 15 ∨ j = 16 ∨ j = 17 ∨ j = 18 := by omega
    rcases hd with rfl | rfl | rfl | rfl | rfl | rfl | rfl | rfl | rfl | rfl | rfl | rfl
    · exact Or.inl (List.mem_of_getElem? fn_6_7)
    · exact Or.inl (List.mem_of_getElem? fn_6_8)
    · exact Or.inl (List.mem_of_getElem? fn_6_9)
    · exact Or.inl (List.mem_of_getElem? fn_6_10)
    · exact Or.inl (List.mem_of_getElem? fn_6_11)
    · exact Or.inr (List.mem_of_getElem? fn_6_12)
    · exact Or.inr (List.mem_of_getElem? fn_6_13)
    · exact Or.inr (List.mem_of_getElem? fn_6_14)
    · exact Or.inr (List.mem_of_getElem? fn_6_15)
    · exact Or.inr (List.mem_of_getElem? fn_6_16)
    · exact Or.inr (List.mem_of_getElem? fn_6_17)
    · exact Or.inl (List.mem_of_getElem? fn_6_18)
  · have hd : j = 8 ∨ j = 9 ∨ j = 10 ∨ j = 11 ∨ j = 12 ∨ j = 13 ∨ j = 14 ∨ j = 15 ∨ j = 16 ∨ j = 17 ∨ j = 18 := by omega
    rcases hd with rfl | rfl | rfl | rfl | rfl | rfl | rfl | rfl | rfl | rfl | rfl
    · exact Or.inl (List.mem_of_getElem? fn_7_8)
    · exact Or.inl (List.mem_of_getElem? fn_7_9)
    · exact Or.inl (List.mem_of_getElem? fn_7_10)
    · exact Or.inl (List.mem_of_getElem? fn_7_11)
    · exact Or.inr (List.mem_of_getElem? fn_7_12)
    · exact Or.inr (List.mem_of_getElem? fn_7_13)
    · exact Or.inr (List.mem_of_getElem? fn_7_14)
    · exact Or.inr (List.mem_of_getElem? fn_7_15)
    · exact Or.inr (List.mem_of_getElem? fn_7_16)
    · exact Or.inr (List.mem_of_getElem? fn_7_17)
    · exact Or.inl (List.mem_of_getElem? fn_7_18)
  · have hd : j = 9 ∨ j = 10 ∨ j = 11 ∨ j = 12 ∨ j = 13 ∨ j = 14 ∨ j = 15 ∨ j = 16 ∨ j = 17 ∨ j = 18 := by omega
    rcases hd with rfl | rfl | rfl | rfl | rfl | rfl | rfl | rfl | rfl | rfl
    · exact Or.inl (List.mem_of_getElem? fn_8_9)
    · exact Or.inl (List.mem_of_getElem? fn_8_10)
    · exact Or.inl (List.mem_of_getElem? fn_8_11)
    · exact Or.inr (List.mem_of_getElem? fn_8_12)
    · exact Or.inr (List.mem_of_getElem? fn_8_13)
    · exact Or.inr (List.mem_of_getElem? fn_8_14)
    · exact Or.inr (List.mem_of_getElem? fn_8_15)
    · exact Or.inr (List.mem_of_getElem? fn_8_16)
    · exact Or.inr (List.mem_of_getElem? fn_8_17)
    · exact Or.inl (List.mem_of_getElem? fn_8_18)
  · have hd : j = 10 ∨ j = 11 ∨ j = 12 ∨ j = 13 ∨ j = 14 ∨ j = 15 ∨ j = 16 ∨ j = 17 ∨ j = 18 := by omega
    rcases hd with rfl | rfl | rfl | rfl | rfl | rfl | rfl | rfl | rfl
    · exact Or.inl (List.mem_of_getElem? fn_9_10)
    · exact Or.inl (List.mem_of_getElem? fn_9_11)
    · exact Or.inr (List.mem_of_getElem? fn_9_12)
    · exact Or.inr (List.mem_of_getElem? fn_9_13)
    · exact Or.inr (List.mem_of_getElem? fn_9_14)
    · exact Or.inr (List.mem_of_getElem? fn_9_15)
    · exact Or.inr (List.mem_of_getElem? fn_9_16)
    · exact Or.inr (List.mem_of_getElem? fn_9_17)
    · exact Or.inl (List.mem_of_getElem? fn_9_18)
  · have hd : j = 11 ∨ j = 12 ∨ j = 13 ∨ j = 14 ∨ j = 15 ∨ j = 16 ∨ j = 17 ∨ j = 18 := by omega
    rcases hd with rfl | rfl | rfl | rfl | rfl | rfl | rfl | rfl
    · exact Or.inl (List.mem_of_getElem? fn_10_11)
    · exact Or.inr (List.mem_of_getElem? fn_10_12)
    · exact Or.inr (List.mem_of_getElem? fn_10_13)
    · exact Or.inr (List.mem_of_getElem? fn_10_14)
    · exact Or.inr (List.mem_of_getElem? fn_10_15)
    · exact Or.inr (List.mem_of_getElem? fn_10_16)
    · exact Or.inr (List.mem_of_getElem? fn_10_17)
    · exact Or.inl (List.mem_of_getElem? fn_10_18)
  · have hd : j = 12 ∨ j = 13 ∨ j = 14 ∨ j = 15 ∨ j = 16 ∨ j = 17 ∨ j = 18 := by omega
    rcases hd with rfl | rfl | rfl | rfl | rfl | rfl | rfl
    · exact Or.inr (List.mem_of_getElem? fn_11_12)
    · exact Or.inr (List.mem_of_getElem? fn_11_13)
    · exact Or.inr (List.mem_of_getElem? fn_11_14)
    · exact Or.inr (List.mem_of_getElem? fn_11_15)
    · exact Or.inr (List.mem_of_getElem? fn_11_16)
    · exact Or.inr (List.mem_of_getElem? fn_11_17)
    · exact Or.inl (List.mem_of_getElem? fn_11_18)
  · have hd : j = 13 ∨ j = 14 ∨ j = 15 ∨ j = 16 ∨ j = 17 ∨ j = 18 := by omega
    rcases hd with rfl | rfl | rfl | rfl | rfl | rfl
    · exact Or.inl (List.mem_of_getElem? fn_12_13)
    · exact Or.inl (List.mem_of_getElem? fn_12_14)
    · exact Or.inr (List.mem_of_getElem? fn_12_15)
    · exact Or.inr (List.mem_of_getElem? fn_12_16)
    · exact Or.inr (List.mem_of_getElem? fn_12_17)
    · exact Or.inl (List.mem_of_getElem? fn_12_18)
  · have hd : j = 14 ∨ j = 15 ∨ j = 16 ∨ j = 17 ∨ j = 18 := by omega
    rcases hd with rfl | rfl | rfl | rfl | rfl
    · exact Or.inl (List.mem_of_getElem? fn_13_14)
    · exact Or.inr (List.mem_of_getElem? fn_13_15)
    · exact Or.inr (List.mem_of_getElem? fn_13_16)
    · exact Or.inr (List.mem_of_getElem? fn_13_17)
    · exact Or.inl (List.mem_of_getElem? fn_13_18)
  · have hd : j = 15 ∨ j = 16 ∨ j = 17 ∨ j = 18 := by omega
    rcases hd with rfl | rfl | rfl | rfl
    · exact Or.inr (List.mem_of_getElem? fn_14_15)
    · exact Or.inr (List.mem_of_getElem? fn_14_16)
    · exact Or.inr (List.mem_of_getElem? fn_14_17)
    · exact Or.inl (List.mem_of_getElem? fn_14_18)
  · have hd : j = 16 ∨ j = 17 ∨ j = 18 := by omega
    rcases hd with rfl | rfl | rfl
    · exact Or.inl (List.mem_of_getElem? fn_15_16)
    · exact Or.inl (List.mem_of_getElem? fn_15_17)
    · exact Or.inl (List.mem_of_getElem? fn_15_18)
  · have hd : j = 17 ∨ j = 18 := by omega
    rcases hd with rfl | rfl
    · exact Or.inl (List.mem_of_getElem? fn_16_17)
    · exact Or.inl (List.mem_of_getElem? fn_16_18)
  · have hd : j = 18 := by omega
    subst hd
    exact Or.inl (List.mem_of_getElem? fn_17_18)
theorem fn_all : ∀ i : Nat, i < 19 → ∀ j : Nat, j < 19 → i ≠ j → Cond.not (Cond.eq (sTm i) (sTm j)) ∈ FL ∨ Cond.not (Cond.eq (sTm j) (sTm i)) ∈ FL := by
  intro i hi j hj hij
  rcases Nat.lt_or_gt_of_ne hij with h | h
  · exact fn_lt i j h hj
  · exact (fn_lt j i h hi).symm
theorem fq_287 : FL[1231]? = some (Cond.eq (sTm 16) (Term.string RX12 287)) := by decide +kernel

theorem pt_pwx_0 : ∀ w ∈ pwx_0, w ∈ lw_tbl := by decide +kernel
theorem pt_pwx_1 : ∀ w ∈ pwx_1, w ∈ lw_tbl := by decide +kernel
theorem pt_pwx_2 : ∀ w ∈ pwx_2, w ∈ lw_tbl := by decide +kernel
theorem pt_pwx_3 : ∀ w ∈ pwx_3, w ∈ lw_tbl := by decide +kernel
theorem pw_tbl : ∀ w ∈ pw, w ∈ lw_tbl := by
  intro w h
  unfold pw at h
  simp only [List.mem_append] at h
  rcases h with h | h | h | h | h | h | h | h | h | h | h | h | h | h | h | h | h | h | h | h | h | h | h | h | h | h | h | h | h | h | h | h | h | h | h | h | h | h | h | h | h | h | h | h | h | h | h | h | h | h | h | h | h | h | h | h | h | h | h | h | h | h | h | h | h | h | h | h | h | h | h | h | h | h | h | h | h
  · exact pt_pwc_0 w h
  · exact pt_pwc_1 w h
  · exact pt_pwc_2 w h
  · exact pt_pwc_3 w h
  · exact pt_pwc_4 w h
  · exact pt_pwc_5 w h
  · exact pt_pwc_6 w h
  · exact pt_pwc_7 w h
  · exact pt_pwc_8 w h
  · exact pt_pwc_9 w h
  · exact pt_pwc_10 w h
  · exact pt_pwc_11 w h
  · exact pt_pwc_12 w h
  · exact pt_pwc_13 w h
  · exact pt_pwc_14 w h
  · exact pt_pwc_15 w h
  · exact pt_pwc_16 w h
  · exact pt_pwc_17 w h
  · exact pt_pwc_18 w h
  · exact pt_pwc_19 w h
  · exact pt_pwc_20 w h
  · exact pt_pwc_21 w h
  · exact pt_pwc_22 w h
  · exact pt_pwc_23 w h
  · exact pt_pwc_24 w h
  · exact pt_pwc_25 w h
  · exact pt_pwc_26 w h
  · exact pt_pwc_27 w h
  · exact pt_pwc_28 w h
  · exact pt_pwc_29 w h
  · exact pt_pwc_30 w h
  · exact pt_pwc_31 w h
  · exact pt_pwc_32 w h
  · exact pt_pwc_33 w h
  · exact pt_pwc_34 w h
  · exact pt_pwc_35 w h
  · exact pt_pwc_36 w h
  · exact pt_pwc_37 w h
  · exact pt_pwc_38 w h
  · exact pt_pwc_39 w h
  · exact pt_pwc_40 w h
  · exact pt_pwc_41 w h
  · exact pt_pwc_42 w h
  · exact pt_pwc_43 w h
  · exact pt_pwc_44 w h
  · exact pt_pwc_45 w h
  · exact pt_pwc_46 w h
  · exact pt_pwc_47 w h
  · exact pt_pwc_48 w h
  · exact pt_pwc_49 w h
  · exact pt_pwc_50 w h
  · exact pt_pwc_51 w h
  · exact pt_pwc_52 w h
  · exact pt_pwc_53 w h
  · exact pt_pwc_54 w h
  · exact pt_pwc_55 w h
  · exact pt_pwc_56 w h
  · exact pt_pwc_57 w h
  · exact pt_pwc_58 w h
  · exact pt_wsX00 w h
  · exact pt_wsX10 w h
  · exact pt_wsX20 w h
  · exact pt_wsX30 w h
  · exact pt_wsX50 w h
  · exact pt_wsX80 w h
  · exact pt_wsX90 w h
  · exact pt_wsX100 w h
  · exact pt_wsX110 w h
  · exact pt_wsX120 w h
  · exact pt_wsJx4a65c0 w h
  · exact pt_wsX40 w h
  · exact pt_wsX60 w h
  · exact pt_wsX70 w h
  · exact pt_pwx_0 w h
  · exact pt_pwx_1 w h
  · exact pt_pwx_2 w h
  · exact pt_pwx_3 w h

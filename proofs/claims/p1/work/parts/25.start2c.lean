theorem pt_pwx_0 : ∀ w ∈ pwx_0, w ∈ lw_tbl := by decide +kernel
theorem pt_pwx_1 : ∀ w ∈ pwx_1, w ∈ lw_tbl := by decide +kernel
theorem pt_pwx_2 : ∀ w ∈ pwx_2, w ∈ lw_tbl := by decide +kernel
theorem pw_tbl : ∀ w ∈ pw, w ∈ lw_tbl := by
  intro w h
  unfold pw at h
  simp only [List.mem_append] at h
  rcases h with h | h | h | h | h | h | h | h | h | h | h | h | h | h | h | h | h | h | h | h | h | h | h | h | h | h | h | h | h | h | h
  · exact pt_pwc_0 w h
  · exact pt_pwc_1 w h
  · exact pt_pwc_2 w h
  · exact pt_pwc_3 w h
  · exact pt_pwc_4 w h
  · exact pt_pwc_5 w h
  · exact pt_pwc_6 w h
  · exact pt_pwc_7 w h
  · exact pt_pwc_8 w h
  · exact pt_pwc_9 w h
  · exact pt_pwc_10 w h
  · exact pt_pwc_11 w h
  · exact pt_pwc_12 w h
  · exact pt_pwc_13 w h
  · exact pt_pwc_14 w h
  · exact pt_pwc_15 w h
  · exact pt_pwc_16 w h
  · exact pt_wsX00 w h
  · exact pt_wsX10 w h
  · exact pt_wsX20 w h
  · exact pt_wsX30 w h
  · exact pt_wsX50 w h
  · exact pt_wsX80 w h
  · exact pt_wsX90 w h
  · exact pt_wsX100 w h
  · exact pt_wsX110 w h
  · exact pt_wsX120 w h
  · exact pt_wsJx4a65c0 w h
  · exact pt_pwx_0 w h
  · exact pt_pwx_1 w h
  · exact pt_pwx_2 w h

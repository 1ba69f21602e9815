/-! Acts, 1 -/
theorem k_mark_k : ab_chk k_mark_W 4000 true false (ak_s 12 194 351 [] lw_T (1000000000, [])) = true := by decide +kernel
theorem k_mark_h0_k : ab_chk k_mark_W 4000 true false k_mark_h0 = true := by decide +kernel
theorem k_mark_h1_k : ab_chk k_mark_W 4000 true false k_mark_h1 = true := by decide +kernel
theorem k_mark_h2_k : ab_chk k_mark_W 4000 true false k_mark_h2 = true := by decide +kernel
theorem k_mark_h3_k : ab_chk k_mark_W 4000 true false k_mark_h3 = true := by decide +kernel
theorem k_mark_h4_k : ab_chk k_mark_W 4000 true false k_mark_h4 = true := by decide +kernel
theorem k_mark_h5_k : ab_chk k_mark_W 4000 true false k_mark_h5 = true := by decide +kernel
theorem k_mark_h6_k : ab_chk k_mark_W 4000 true false k_mark_h6 = true := by decide +kernel
theorem k_mark_h7_k : ab_chk k_mark_W 4000 true false k_mark_h7 = true := by decide +kernel
theorem k_mark_h8_k : ab_chk k_mark_W 4000 true false k_mark_h8 = true := by decide +kernel

/-! Acts, 9 -/
theorem k_back_k : ab_chk k_back_W 4000 true false (ak_s 12 195 352 [] lw_T (1000000000, [])) = true := by decide +kernel
theorem k_back_h0_k : ab_chk k_back_W 4000 true false k_back_h0 = true := by decide +kernel
theorem k_back_h1_k : ab_chk k_back_W 4000 true false k_back_h1 = true := by decide +kernel
theorem k_back_h2_k : ab_chk k_back_W 4000 true false k_back_h2 = true := by decide +kernel
theorem k_back_h3_k : ab_chk k_back_W 4000 true false k_back_h3 = true := by decide +kernel
theorem k_back_h4_k : ab_chk k_back_W 4000 true false k_back_h4 = true := by decide +kernel
theorem k_back_h5_k : ab_chk k_back_W 4000 true false k_back_h5 = true := by decide +kernel
theorem k_back_h6_k : ab_chk k_back_W 4000 true false k_back_h6 = true := by decide +kernel
theorem k_back_h7_k : ab_chk k_back_W 4000 true false k_back_h7 = true := by decide +kernel
theorem k_back_h8_k : ab_chk k_back_W 4000 true false k_back_h8 = true := by decide +kernel

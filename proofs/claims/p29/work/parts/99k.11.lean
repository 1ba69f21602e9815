/-! Acts, 11 -/
theorem k_back_h19_k : ab_chk k_back_W 4000 true false k_back_h19 = true := by decide +kernel
theorem k_back_h20_k : ab_chk k_back_W 4000 true false k_back_h20 = true := by decide +kernel
theorem k_back_h21_k : ab_chk k_back_W 4000 true false k_back_h21 = true := by decide +kernel
theorem k_back_h22_k : ab_chk k_back_W 4000 true false k_back_h22 = true := by decide +kernel
theorem k_back_h23_k : ab_chk k_back_W 4000 true false k_back_h23 = true := by decide +kernel
theorem k_back_h24_k : ab_chk k_back_W 4000 true false k_back_h24 = true := by decide +kernel
theorem k_back_h25_k : ab_chk k_back_W 4000 true false k_back_h25 = true := by decide +kernel
theorem k_back_h26_k : ab_chk k_back_W 4000 true false k_back_h26 = true := by decide +kernel
theorem k_back_h27_k : ab_chk k_back_W 4000 true false k_back_h27 = true := by decide +kernel
theorem k_back_h28_k : ab_chk k_back_W 4000 true false k_back_h28 = true := by decide +kernel

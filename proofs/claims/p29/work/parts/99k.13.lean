/-! Acts, 13 -/
theorem k_back_h39_k : ab_chk k_back_W 4000 true false k_back_h39 = true := by decide +kernel
theorem k_back_h40_k : ab_chk k_back_W 4000 true false k_back_h40 = true := by decide +kernel
theorem k_back_h41_k : ab_chk k_back_W 4000 true false k_back_h41 = true := by decide +kernel
theorem k_back_h42_k : ab_chk k_back_W 4000 true false k_back_h42 = true := by decide +kernel
theorem k_back_h43_k : ab_chk k_back_W 4000 true false k_back_h43 = true := by decide +kernel
theorem k_back_h44_k : ab_chk k_back_W 4000 true false k_back_h44 = true := by decide +kernel
theorem k_back_h45_k : ab_chk k_back_W 4000 true false k_back_h45 = true := by decide +kernel
theorem k_back_h46_k : ab_chk k_back_W 4000 true false k_back_h46 = true := by decide +kernel
theorem k_back_h47_k : ab_chk k_back_W 4000 true false k_back_h47 = true := by decide +kernel
theorem k_back_h48_k : ab_chk k_back_W 4000 true false k_back_h48 = true := by decide +kernel

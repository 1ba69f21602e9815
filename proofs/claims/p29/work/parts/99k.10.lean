/-! Acts, 10 -/
theorem k_back_h9_k : ab_chk k_back_W 4000 true false k_back_h9 = true := by decide +kernel
theorem k_back_h10_k : ab_chk k_back_W 4000 true false k_back_h10 = true := by decide +kernel
theorem k_back_h11_k : ab_chk k_back_W 4000 true false k_back_h11 = true := by decide +kernel
theorem k_back_h12_k : ab_chk k_back_W 4000 true false k_back_h12 = true := by decide +kernel
theorem k_back_h13_k : ab_chk k_back_W 4000 true false k_back_h13 = true := by decide +kernel
theorem k_back_h14_k : ab_chk k_back_W 4000 true false k_back_h14 = true := by decide +kernel
theorem k_back_h15_k : ab_chk k_back_W 4000 true false k_back_h15 = true := by decide +kernel
theorem k_back_h16_k : ab_chk k_back_W 4000 true false k_back_h16 = true := by decide +kernel
theorem k_back_h17_k : ab_chk k_back_W 4000 true false k_back_h17 = true := by decide +kernel
theorem k_back_h18_k : ab_chk k_back_W 4000 true false k_back_h18 = true := by decide +kernel

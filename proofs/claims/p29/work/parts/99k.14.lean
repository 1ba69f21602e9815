/-! Acts, 14 -/
theorem k_back_h49_k : ab_chk k_back_W 4000 true false k_back_h49 = true := by decide +kernel
theorem k_back_h50_k : ab_chk k_back_W 4000 true false k_back_h50 = true := by decide +kernel
theorem k_back_h51_k : ab_chk k_back_W 4000 true false k_back_h51 = true := by decide +kernel
theorem k_back_h52_k : ab_chk k_back_W 4000 true false k_back_h52 = true := by decide +kernel
theorem k_back_h53_k : ab_chk k_back_W 4000 true false k_back_h53 = true := by decide +kernel
theorem k_back_h54_k : ab_chk k_back_W 4000 true false k_back_h54 = true := by decide +kernel
theorem k_back_h55_k : ab_chk k_back_W 4000 true false k_back_h55 = true := by decide +kernel
theorem k_back_h56_k : ab_chk k_back_W 4000 true false k_back_h56 = true := by decide +kernel
theorem k_back_h57_k : ab_chk k_back_W 4000 true false k_back_h57 = true := by decide +kernel
theorem k_back_h58_k : ab_chk k_back_W 4000 true false k_back_h58 = true := by decide +kernel

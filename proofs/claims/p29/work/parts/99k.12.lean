/-! Acts, 12 -/
theorem k_back_h29_k : ab_chk k_back_W 4000 true false k_back_h29 = true := by decide +kernel
theorem k_back_h30_k : ab_chk k_back_W 4000 true false k_back_h30 = true := by decide +kernel
theorem k_back_h31_k : ab_chk k_back_W 4000 true false k_back_h31 = true := by decide +kernel
theorem k_back_h32_k : ab_chk k_back_W 4000 true false k_back_h32 = true := by decide +kernel
theorem k_back_h33_k : ab_chk k_back_W 4000 true false k_back_h33 = true := by decide +kernel
theorem k_back_h34_k : ab_chk k_back_W 4000 true false k_back_h34 = true := by decide +kernel
theorem k_back_h35_k : ab_chk k_back_W 4000 true false k_back_h35 = true := by decide +kernel
theorem k_back_h36_k : ab_chk k_back_W 4000 true false k_back_h36 = true := by decide +kernel
theorem k_back_h37_k : ab_chk k_back_W 4000 true false k_back_h37 = true := by decide +kernel
theorem k_back_h38_k : ab_chk k_back_W 4000 true false k_back_h38 = true := by decide +kernel

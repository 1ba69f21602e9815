/-! Acts, 4 -/
theorem k_mark_h29_k : ab_chk k_mark_W 4000 true false k_mark_h29 = true := by decide +kernel
theorem k_mark_h30_k : ab_chk k_mark_W 4000 true false k_mark_h30 = true := by decide +kernel
theorem k_mark_h31_k : ab_chk k_mark_W 4000 true false k_mark_h31 = true := by decide +kernel
theorem k_mark_h32_k : ab_chk k_mark_W 4000 true false k_mark_h32 = true := by decide +kernel
theorem k_mark_h33_k : ab_chk k_mark_W 4000 true false k_mark_h33 = true := by decide +kernel
theorem k_mark_h34_k : ab_chk k_mark_W 4000 true false k_mark_h34 = true := by decide +kernel
theorem k_mark_h35_k : ab_chk k_mark_W 4000 true false k_mark_h35 = true := by decide +kernel
theorem k_mark_h36_k : ab_chk k_mark_W 4000 true false k_mark_h36 = true := by decide +kernel
theorem k_mark_h37_k : ab_chk k_mark_W 4000 true false k_mark_h37 = true := by decide +kernel
theorem k_mark_h38_k : ab_chk k_mark_W 4000 true false k_mark_h38 = true := by decide +kernel

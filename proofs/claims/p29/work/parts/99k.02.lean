/-! Acts, 2 -/
theorem k_mark_h9_k : ab_chk k_mark_W 4000 true false k_mark_h9 = true := by decide +kernel
theorem k_mark_h10_k : ab_chk k_mark_W 4000 true false k_mark_h10 = true := by decide +kernel
theorem k_mark_h11_k : ab_chk k_mark_W 4000 true false k_mark_h11 = true := by decide +kernel
theorem k_mark_h12_k : ab_chk k_mark_W 4000 true false k_mark_h12 = true := by decide +kernel
theorem k_mark_h13_k : ab_chk k_mark_W 4000 true false k_mark_h13 = true := by decide +kernel
theorem k_mark_h14_k : ab_chk k_mark_W 4000 true false k_mark_h14 = true := by decide +kernel
theorem k_mark_h15_k : ab_chk k_mark_W 4000 true false k_mark_h15 = true := by decide +kernel
theorem k_mark_h16_k : ab_chk k_mark_W 4000 true false k_mark_h16 = true := by decide +kernel
theorem k_mark_h17_k : ab_chk k_mark_W 4000 true false k_mark_h17 = true := by decide +kernel
theorem k_mark_h18_k : ab_chk k_mark_W 4000 true false k_mark_h18 = true := by decide +kernel

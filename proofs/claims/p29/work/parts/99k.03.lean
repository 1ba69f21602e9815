/-! Acts, 3 -/
theorem k_mark_h19_k : ab_chk k_mark_W 4000 true false k_mark_h19 = true := by decide +kernel
theorem k_mark_h20_k : ab_chk k_mark_W 4000 true false k_mark_h20 = true := by decide +kernel
theorem k_mark_h21_k : ab_chk k_mark_W 4000 true false k_mark_h21 = true := by decide +kernel
theorem k_mark_h22_k : ab_chk k_mark_W 4000 true false k_mark_h22 = true := by decide +kernel
theorem k_mark_h23_k : ab_chk k_mark_W 4000 true false k_mark_h23 = true := by decide +kernel
theorem k_mark_h24_k : ab_chk k_mark_W 4000 true false k_mark_h24 = true := by decide +kernel
theorem k_mark_h25_k : ab_chk k_mark_W 4000 true false k_mark_h25 = true := by decide +kernel
theorem k_mark_h26_k : ab_chk k_mark_W 4000 true false k_mark_h26 = true := by decide +kernel
theorem k_mark_h27_k : ab_chk k_mark_W 4000 true false k_mark_h27 = true := by decide +kernel
theorem k_mark_h28_k : ab_chk k_mark_W 4000 true false k_mark_h28 = true := by decide +kernel

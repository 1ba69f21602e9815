/-! Acts, 5 -/
theorem k_mark_h39_k : ab_chk k_mark_W 4000 true false k_mark_h39 = true := by decide +kernel
theorem k_mark_h40_k : ab_chk k_mark_W 4000 true false k_mark_h40 = true := by decide +kernel
theorem k_mark_h41_k : ab_chk k_mark_W 4000 true false k_mark_h41 = true := by decide +kernel
theorem k_mark_h42_k : ab_chk k_mark_W 4000 true false k_mark_h42 = true := by decide +kernel
theorem k_mark_h43_k : ab_chk k_mark_W 4000 true false k_mark_h43 = true := by decide +kernel
theorem k_mark_h44_k : ab_chk k_mark_W 4000 true false k_mark_h44 = true := by decide +kernel
theorem k_mark_h45_k : ab_chk k_mark_W 4000 true false k_mark_h45 = true := by decide +kernel
theorem k_mark_h46_k : ab_chk k_mark_W 4000 true false k_mark_h46 = true := by decide +kernel
theorem k_mark_h47_k : ab_chk k_mark_W 4000 true false k_mark_h47 = true := by decide +kernel
theorem k_mark_h48_k : ab_chk k_mark_W 4000 true false k_mark_h48 = true := by decide +kernel

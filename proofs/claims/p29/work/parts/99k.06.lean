/-! Acts, 6 -/
theorem k_mark_h49_k : ab_chk k_mark_W 4000 true false k_mark_h49 = true := by decide +kernel
theorem k_mark_h50_k : ab_chk k_mark_W 4000 true false k_mark_h50 = true := by decide +kernel
theorem k_mark_h51_k : ab_chk k_mark_W 4000 true false k_mark_h51 = true := by decide +kernel
theorem k_mark_h52_k : ab_chk k_mark_W 4000 true false k_mark_h52 = true := by decide +kernel
theorem k_mark_h53_k : ab_chk k_mark_W 4000 true false k_mark_h53 = true := by decide +kernel
theorem k_mark_h54_k : ab_chk k_mark_W 4000 true false k_mark_h54 = true := by decide +kernel
theorem k_mark_h55_k : ab_chk k_mark_W 4000 true false k_mark_h55 = true := by decide +kernel
theorem k_mark_h56_k : ab_chk k_mark_W 4000 true false k_mark_h56 = true := by decide +kernel
theorem k_mark_h57_k : ab_chk k_mark_W 4000 true false k_mark_h57 = true := by decide +kernel
theorem k_mark_h58_k : ab_chk k_mark_W 4000 true false k_mark_h58 = true := by decide +kernel

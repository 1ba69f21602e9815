/-! Acts, 7 -/
theorem k_mark_h59_k : ab_chk k_mark_W 4000 true false k_mark_h59 = true := by decide +kernel

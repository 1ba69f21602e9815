/-! back, 4 -/
theorem kb_k4 : (kb_l4.all (af_chk kb_W kb_hq 4000 true false)) = true := by decide +kernel

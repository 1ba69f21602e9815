/-! back, 2 -/
theorem kb_k2 : (kb_l2.all (af_chk kb_W kb_hq 4000 true false)) = true := by decide +kernel

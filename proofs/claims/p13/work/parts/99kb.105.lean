/-! back, 5 -/
theorem kb_k5 : (kb_l5.all (af_chk kb_W kb_hq 4000 true false)) = true := by decide +kernel

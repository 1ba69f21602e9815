/-! back, 6 -/
theorem kb_k6 : (kb_l6.all (af_chk kb_W kb_hq 4000 true false)) = true := by decide +kernel

/-! back, 1 -/
theorem kb_k1 : (kb_l1.all (af_chk kb_W kb_hq 4000 true false)) = true := by decide +kernel

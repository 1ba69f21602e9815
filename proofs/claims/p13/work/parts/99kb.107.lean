/-! back, 7 -/
theorem kb_k7 : (kb_l7.all (af_chk kb_W kb_hq 4000 true false)) = true := by decide +kernel

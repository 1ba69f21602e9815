/-! back, 0 -/
theorem kb_k0 : (kb_l0.all (af_chk kb_W kb_hq 4000 true false)) = true := by decide +kernel

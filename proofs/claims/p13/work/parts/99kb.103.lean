/-! back, 3 -/
theorem kb_k3 : (kb_l3.all (af_chk kb_W kb_hq 4000 true false)) = true := by decide +kernel

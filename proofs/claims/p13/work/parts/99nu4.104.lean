/-! Blocks one in another, 4 -/
theorem nt4_k4 : (nt4_l4.all (af_chk nt4_W nt4_hq 4000 true false)) = true := by decide +kernel

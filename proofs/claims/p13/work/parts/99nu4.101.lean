/-! Blocks one in another, 4 -/
theorem nt4_k1 : (nt4_l1.all (af_chk nt4_W nt4_hq 4000 true false)) = true := by decide +kernel

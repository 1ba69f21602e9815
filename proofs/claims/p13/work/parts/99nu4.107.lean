/-! Blocks one in another, 4 -/
theorem nt4_k7 : (nt4_l7.all (af_chk nt4_W nt4_hq 4000 true false)) = true := by decide +kernel

/-! Blocks one in another, 2 -/
theorem nt2_k5 : (nt2_l5.all (af_chk nt2_W nt2_hq 4000 true false)) = true := by decide +kernel

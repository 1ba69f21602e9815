/-! Blocks one in another, 2 -/
theorem nt2_k9 : (nt2_l9.all (af_chk nt2_W nt2_hq 4000 true false)) = true := by decide +kernel

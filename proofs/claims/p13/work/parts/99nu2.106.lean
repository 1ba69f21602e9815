/-! Blocks one in another, 2 -/
theorem nt2_k6 : (nt2_l6.all (af_chk nt2_W nt2_hq 4000 true false)) = true := by decide +kernel

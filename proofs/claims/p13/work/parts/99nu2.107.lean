/-! Blocks one in another, 2 -/
theorem nt2_k7 : (nt2_l7.all (af_chk nt2_W nt2_hq 4000 true false)) = true := by decide +kernel

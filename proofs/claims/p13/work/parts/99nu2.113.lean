/-! Blocks one in another, 2 -/
theorem nt2_k13 : (nt2_l13.all (af_chk nt2_W nt2_hq 4000 true false)) = true := by decide +kernel

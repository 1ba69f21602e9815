/-! mark, 2 -/
theorem km_k2 : (km_l2.all (af_chk km_W km_hq 4000 true false)) = true := by decide +kernel

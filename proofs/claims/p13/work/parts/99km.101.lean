/-! mark, 1 -/
theorem km_k1 : (km_l1.all (af_chk km_W km_hq 4000 true false)) = true := by decide +kernel

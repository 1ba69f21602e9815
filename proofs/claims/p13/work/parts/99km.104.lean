/-! mark, 4 -/
theorem km_k4 : (km_l4.all (af_chk km_W km_hq 4000 true false)) = true := by decide +kernel

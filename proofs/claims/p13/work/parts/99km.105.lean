/-! mark, 5 -/
theorem km_k5 : (km_l5.all (af_chk km_W km_hq 4000 true false)) = true := by decide +kernel

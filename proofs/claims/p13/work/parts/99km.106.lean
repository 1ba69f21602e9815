/-! mark, 6 -/
theorem km_k6 : (km_l6.all (af_chk km_W km_hq 4000 true false)) = true := by decide +kernel

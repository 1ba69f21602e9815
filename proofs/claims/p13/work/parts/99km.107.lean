/-! mark, 7 -/
theorem km_k7 : (km_l7.all (af_chk km_W km_hq 4000 true false)) = true := by decide +kernel

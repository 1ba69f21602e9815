/-! mark, 0 -/
theorem km_k0 : (km_l0.all (af_chk km_W km_hq 4000 true false)) = true := by decide +kernel

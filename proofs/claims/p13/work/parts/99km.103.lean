/-! mark, 3 -/
theorem km_k3 : (km_l3.all (af_chk km_W km_hq 4000 true false)) = true := by decide +kernel

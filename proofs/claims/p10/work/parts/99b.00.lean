/-! The meeting points hold, 0 -/
theorem ay_0_ok : ab_chk ay_W 4000 true true ay_0 = true := by decide +kernel
theorem ay_1_ok : ab_chk ay_W 4000 true true ay_1 = true := by decide +kernel
theorem ay_2_ok : ab_chk ay_W 4000 true true ay_2 = true := by decide +kernel
theorem ay_3_ok : ab_chk ay_W 4000 true true ay_3 = true := by decide +kernel

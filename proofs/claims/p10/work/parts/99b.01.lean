/-! The meeting points hold, 1 -/
theorem ay_4_ok : ab_chk ay_W 4000 true true ay_4 = true := by decide +kernel
theorem ay_5_ok : ab_chk ay_W 4000 true true ay_5 = true := by decide +kernel
theorem ay_6_ok : ab_chk ay_W 4000 true true ay_6 = true := by decide +kernel
theorem ay_7_ok : ab_chk ay_W 4000 true true ay_7 = true := by decide +kernel
theorem ay_8_ok : ab_chk ay_W 4000 true true ay_8 = true := by decide +kernel
theorem ay_9_ok : ab_chk ay_W 4000 true true ay_9 = true := by decide +kernel
theorem ay_10_ok : ab_chk ay_W 4000 true true ay_10 = true := by decide +kernel
theorem ay_11_ok : ab_chk ay_W 4000 true true ay_11 = true := by decide +kernel

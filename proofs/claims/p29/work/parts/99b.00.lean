/-! The meeting points hold, 0 -/
theorem ay_0_ok : ab_chk ay_W 4000 true true ay_0 = true := by decide +kernel
theorem ay_2_ok : ab_chk ay_W 4000 true true ay_2 = true := by decide +kernel
theorem ay_3_ok : ab_chk ay_W 4000 true true ay_3 = true := by decide +kernel
theorem ay_4_ok : ab_chk ay_W 4000 true true ay_4 = true := by decide +kernel
theorem ay_5_ok : ab_chk ay_W 4000 true true ay_5 = true := by decide +kernel
theorem ay_6_ok : ab_chk ay_W 4000 true true ay_6 = true := by decide +kernel
theorem ay_7_ok : ab_chk ay_W 4000 true true ay_7 = true := by decide +kernel
theorem ay_8_ok : ab_chk ay_W 4000 true true ay_8 = true := by decide +kernel
theorem ay_9_ok : ab_chk ay_W 4000 true true ay_9 = true := by decide +kernel
theorem ay_10_ok : ab_chk ay_W 4000 true true ay_10 = true := by decide +kernel
theorem ay_11_ok : ab_chk ay_W 4000 true true ay_11 = true := by decide +kernel
theorem ay_12_ok : ab_chk ay_W 4000 true true ay_12 = true := by decide +kernel
theorem ay_13_ok : ab_chk ay_W 4000 true true ay_13 = true := by decide +kernel
theorem ay_14_ok : ab_chk ay_W 4000 true true ay_14 = true := by decide +kernel
theorem ay_15_ok : ab_chk ay_W 4000 true true ay_15 = true := by decide +kernel

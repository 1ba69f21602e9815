/-! The meeting points hold, 2 -/
theorem ay_12_ok : ab_chk ay_W 4000 true true ay_12 = true := by decide +kernel
theorem ay_13_ok : ab_chk ay_W 4000 true true ay_13 = true := by decide +kernel
theorem ay_14_ok : ab_chk ay_W 4000 true true ay_14 = true := by decide +kernel
theorem ay_15_ok : ab_chk ay_W 4000 true true ay_15 = true := by decide +kernel
theorem ay_16_ok : ab_chk ay_W 4000 true true ay_16 = true := by decide +kernel
theorem ay_17_ok : ab_chk ay_W 4000 true true ay_17 = true := by decide +kernel
theorem ay_18_ok : ab_chk ay_W 4000 true true ay_18 = true := by decide +kernel
theorem ay_19_ok : ab_chk ay_W 4000 true true ay_19 = true := by decide +kernel
theorem ay_20_ok : ab_chk ay_W 4000 true true ay_20 = true := by decide +kernel
theorem ay_21_ok : ab_chk ay_W 4000 true true ay_21 = true := by decide +kernel

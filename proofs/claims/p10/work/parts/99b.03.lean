/-! The meeting points hold, 3 -/
theorem ay_22_ok : ab_chk ay_W 4000 true true ay_22 = true := by decide +kernel
theorem ay_23_ok : ab_chk ay_W 4000 true true ay_23 = true := by decide +kernel
theorem ay_24_ok : ab_chk ay_W 4000 true true ay_24 = true := by decide +kernel
theorem ay_25_ok : ab_chk ay_W 4000 true true ay_25 = true := by decide +kernel
theorem ay_26_ok : ab_chk ay_W 4000 true true ay_26 = true := by decide +kernel
theorem ay_27_ok : ab_chk ay_W 4000 true true ay_27 = true := by decide +kernel
theorem ay_28_ok : ab_chk ay_W 4000 true true ay_28 = true := by decide +kernel
theorem ay_29_ok : ab_chk ay_W 4000 true true ay_29 = true := by decide +kernel
theorem ay_30_ok : ab_chk ay_W 4000 true true ay_30 = true := by decide +kernel
theorem ay_31_ok : ab_chk ay_W 4000 true true ay_31 = true := by decide +kernel
theorem ay_32_ok : ab_chk ay_W 4000 true true ay_32 = true := by decide +kernel
theorem ay_33_ok : ab_chk ay_W 4000 true true ay_33 = true := by decide +kernel
theorem ay_34_ok : ab_chk ay_W 4000 true true ay_34 = true := by decide +kernel

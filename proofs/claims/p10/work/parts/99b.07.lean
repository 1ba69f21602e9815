/-! The meeting points hold, 7 -/
theorem ay_72_ok : ab_chk ay_W 4000 true true ay_72 = true := by decide +kernel
theorem ay_73_ok : ab_chk ay_W 4000 true true ay_73 = true := by decide +kernel
theorem ay_74_ok : ab_chk ay_W 4000 true true ay_74 = true := by decide +kernel
theorem ay_75_ok : ab_chk ay_W 4000 true true ay_75 = true := by decide +kernel

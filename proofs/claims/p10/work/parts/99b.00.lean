/-! The meeting points hold, 0 -/
theorem ay_0_ok : ab_chk ay_W 4000 true true ay_0 = true := by decide +kernel

/-! The meeting points hold, the second and third of all -/
theorem ay_2_ok : ab_chk ay_W 4000 true true ay_2 = true := by decide +kernel
theorem ay_3_ok : ab_chk ay_W 4000 true true ay_3 = true := by decide +kernel

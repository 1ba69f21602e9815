/-! The meeting points hold, 5 -/
theorem ay_49_ok : ab_chk ay_W 4000 true true ay_49 = true := by decide +kernel
theorem ay_50_ok : ab_chk ay_W 4000 true true ay_50 = true := by decide +kernel
theorem ay_51_ok : ab_chk ay_W 4000 true true ay_51 = true := by decide +kernel
theorem ay_52_ok : ab_chk ay_W 4000 true true ay_52 = true := by decide +kernel
theorem ay_53_ok : ab_chk ay_W 4000 true true ay_53 = true := by decide +kernel
theorem ay_54_ok : ab_chk ay_W 4000 true true ay_54 = true := by decide +kernel
theorem ay_55_ok : ab_chk ay_W 4000 true true ay_55 = true := by decide +kernel
theorem ay_56_ok : ab_chk ay_W 4000 true true ay_56 = true := by decide +kernel
theorem ay_57_ok : ab_chk ay_W 4000 true true ay_57 = true := by decide +kernel
theorem ay_58_ok : ab_chk ay_W 4000 true true ay_58 = true := by decide +kernel
theorem ay_59_ok : ab_chk ay_W 4000 true true ay_59 = true := by decide +kernel
theorem ay_60_ok : ab_chk ay_W 4000 true true ay_60 = true := by decide +kernel

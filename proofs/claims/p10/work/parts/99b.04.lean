/-! The meeting points hold, 4 -/
theorem ay_35_ok : ab_chk ay_W 4000 true true ay_35 = true := by decide +kernel
theorem ay_36_ok : ab_chk ay_W 4000 true true ay_36 = true := by decide +kernel
theorem ay_37_ok : ab_chk ay_W 4000 true true ay_37 = true := by decide +kernel
theorem ay_38_ok : ab_chk ay_W 4000 true true ay_38 = true := by decide +kernel
theorem ay_39_ok : ab_chk ay_W 4000 true true ay_39 = true := by decide +kernel
theorem ay_40_ok : ab_chk ay_W 4000 true true ay_40 = true := by decide +kernel
theorem ay_41_ok : ab_chk ay_W 4000 true true ay_41 = true := by decide +kernel
theorem ay_42_ok : ab_chk ay_W 4000 true true ay_42 = true := by decide +kernel
theorem ay_43_ok : ab_chk ay_W 4000 true true ay_43 = true := by decide +kernel
theorem ay_44_ok : ab_chk ay_W 4000 true true ay_44 = true := by decide +kernel
theorem ay_45_ok : ab_chk ay_W 4000 true true ay_45 = true := by decide +kernel
theorem ay_46_ok : ab_chk ay_W 4000 true true ay_46 = true := by decide +kernel
theorem ay_47_ok : ab_chk ay_W 4000 true true ay_47 = true := by decide +kernel
theorem ay_48_ok : ab_chk ay_W 4000 true true ay_48 = true := by decide +kernel

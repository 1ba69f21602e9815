/-! The meeting points hold, 3 -/
theorem ay_60_ok : ab_chk ay_W 4000 true true ay_60 = true := by decide +kernel
theorem ay_61_ok : ab_chk ay_W 4000 true true ay_61 = true := by decide +kernel
theorem ay_62_ok : ab_chk ay_W 4000 true true ay_62 = true := by decide +kernel
theorem ay_63_ok : ab_chk ay_W 4000 true true ay_63 = true := by decide +kernel
theorem ay_64_ok : ab_chk ay_W 4000 true true ay_64 = true := by decide +kernel
theorem ay_65_ok : ab_chk ay_W 4000 true true ay_65 = true := by decide +kernel
theorem ay_66_ok : ab_chk ay_W 4000 true true ay_66 = true := by decide +kernel
theorem ay_67_ok : ab_chk ay_W 4000 true true ay_67 = true := by decide +kernel
theorem ay_68_ok : ab_chk ay_W 4000 true true ay_68 = true := by decide +kernel
theorem ay_69_ok : ab_chk ay_W 4000 true true ay_69 = true := by decide +kernel
theorem ay_70_ok : ab_chk ay_W 4000 true true ay_70 = true := by decide +kernel
theorem ay_71_ok : ab_chk ay_W 4000 true true ay_71 = true := by decide +kernel
theorem ay_72_ok : ab_chk ay_W 4000 true true ay_72 = true := by decide +kernel
theorem ay_73_ok : ab_chk ay_W 4000 true true ay_73 = true := by decide +kernel

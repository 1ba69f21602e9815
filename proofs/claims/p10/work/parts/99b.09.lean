/-! The meeting points hold, 9 -/
theorem ay_88_ok : ab_chk ay_W 4000 true true ay_88 = true := by decide +kernel
theorem ay_89_ok : ab_chk ay_W 4000 true true ay_89 = true := by decide +kernel
theorem ay_90_ok : ab_chk ay_W 4000 true true ay_90 = true := by decide +kernel
theorem ay_91_ok : ab_chk ay_W 4000 true true ay_91 = true := by decide +kernel
theorem ay_92_ok : ab_chk ay_W 4000 true true ay_92 = true := by decide +kernel
theorem ay_93_ok : ab_chk ay_W 4000 true true ay_93 = true := by decide +kernel
theorem ay_94_ok : ab_chk ay_W 4000 true true ay_94 = true := by decide +kernel
theorem ay_95_ok : ab_chk ay_W 4000 true true ay_95 = true := by decide +kernel
theorem ay_96_ok : ab_chk ay_W 4000 true true ay_96 = true := by decide +kernel
theorem ay_97_ok : ab_chk ay_W 4000 true true ay_97 = true := by decide +kernel
theorem ay_98_ok : ab_chk ay_W 4000 true true ay_98 = true := by decide +kernel
theorem ay_99_ok : ab_chk ay_W 4000 true true ay_99 = true := by decide +kernel
theorem ay_100_ok : ab_chk ay_W 4000 true true ay_100 = true := by decide +kernel
theorem ay_101_ok : ab_chk ay_W 4000 true true ay_101 = true := by decide +kernel

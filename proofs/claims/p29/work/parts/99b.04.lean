/-! The meeting points hold, 4 -/
theorem ay_74_ok : ab_chk ay_W 4000 true true ay_74 = true := by decide +kernel
theorem ay_75_ok : ab_chk ay_W 4000 true true ay_75 = true := by decide +kernel
theorem ay_76_ok : ab_chk ay_W 4000 true true ay_76 = true := by decide +kernel
theorem ay_77_ok : ab_chk ay_W 4000 true true ay_77 = true := by decide +kernel
theorem ay_78_ok : ab_chk ay_W 4000 true true ay_78 = true := by decide +kernel
theorem ay_79_ok : ab_chk ay_W 4000 true true ay_79 = true := by decide +kernel
theorem ay_80_ok : ab_chk ay_W 4000 true true ay_80 = true := by decide +kernel
theorem ay_81_ok : ab_chk ay_W 4000 true true ay_81 = true := by decide +kernel
theorem ay_82_ok : ab_chk ay_W 4000 true true ay_82 = true := by decide +kernel
theorem ay_83_ok : ab_chk ay_W 4000 true true ay_83 = true := by decide +kernel
theorem ay_84_ok : ab_chk ay_W 4000 true true ay_84 = true := by decide +kernel
theorem ay_85_ok : ab_chk ay_W 4000 true true ay_85 = true := by decide +kernel
theorem ay_86_ok : ab_chk ay_W 4000 true true ay_86 = true := by decide +kernel
theorem ay_87_ok : ab_chk ay_W 4000 true true ay_87 = true := by decide +kernel
theorem ay_88_ok : ab_chk ay_W 4000 true true ay_88 = true := by decide +kernel
theorem ay_89_ok : ab_chk ay_W 4000 true true ay_89 = true := by decide +kernel
theorem ay_90_ok : ab_chk ay_W 4000 true true ay_90 = true := by decide +kernel

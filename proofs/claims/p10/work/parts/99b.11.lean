/-! The meeting points hold, 11 -/
theorem ay_116_ok : ab_chk ay_W 4000 true true ay_116 = true := by decide +kernel
theorem ay_117_ok : ab_chk ay_W 4000 true true ay_117 = true := by decide +kernel
theorem ay_118_ok : ab_chk ay_W 4000 true true ay_118 = true := by decide +kernel
theorem ay_119_ok : ab_chk ay_W 4000 true true ay_119 = true := by decide +kernel
theorem ay_120_ok : ab_chk ay_W 4000 true true ay_120 = true := by decide +kernel
theorem ay_121_ok : ab_chk ay_W 4000 true true ay_121 = true := by decide +kernel
theorem ay_122_ok : ab_chk ay_W 4000 true true ay_122 = true := by decide +kernel
theorem ay_123_ok : ab_chk ay_W 4000 true true ay_123 = true := by decide +kernel
theorem ay_124_ok : ab_chk ay_W 4000 true true ay_124 = true := by decide +kernel
theorem ay_125_ok : ab_chk ay_W 4000 true true ay_125 = true := by decide +kernel
theorem ay_126_ok : ab_chk ay_W 4000 true true ay_126 = true := by decide +kernel
theorem ay_127_ok : ab_chk ay_W 4000 true true ay_127 = true := by decide +kernel
theorem ay_128_ok : ab_chk ay_W 4000 true true ay_128 = true := by decide +kernel
theorem ay_129_ok : ab_chk ay_W 4000 true true ay_129 = true := by decide +kernel
theorem ay_130_ok : ab_chk ay_W 4000 true true ay_130 = true := by decide +kernel

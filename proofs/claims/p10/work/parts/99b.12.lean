/-! The meeting points hold, 12 -/
theorem ay_131_ok : ab_chk ay_W 4000 true true ay_131 = true := by decide +kernel
theorem ay_132_ok : ab_chk ay_W 4000 true true ay_132 = true := by decide +kernel
theorem ay_133_ok : ab_chk ay_W 4000 true true ay_133 = true := by decide +kernel
theorem ay_134_ok : ab_chk ay_W 4000 true true ay_134 = true := by decide +kernel
theorem ay_135_ok : ab_chk ay_W 4000 true true ay_135 = true := by decide +kernel
theorem ay_136_ok : ab_chk ay_W 4000 true true ay_136 = true := by decide +kernel
theorem ay_137_ok : ab_chk ay_W 4000 true true ay_137 = true := by decide +kernel
theorem ay_138_ok : ab_chk ay_W 4000 true true ay_138 = true := by decide +kernel
theorem ay_139_ok : ab_chk ay_W 4000 true true ay_139 = true := by decide +kernel
theorem ay_140_ok : ab_chk ay_W 4000 true true ay_140 = true := by decide +kernel
theorem ay_141_ok : ab_chk ay_W 4000 true true ay_141 = true := by decide +kernel
theorem ay_142_ok : ab_chk ay_W 4000 true true ay_142 = true := by decide +kernel
theorem ay_143_ok : ab_chk ay_W 4000 true true ay_143 = true := by decide +kernel
theorem ay_144_ok : ab_chk ay_W 4000 true true ay_144 = true := by decide +kernel
theorem ay_145_ok : ab_chk ay_W 4000 true true ay_145 = true := by decide +kernel

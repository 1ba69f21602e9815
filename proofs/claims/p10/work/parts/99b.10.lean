/-! The meeting points hold, 10 -/
theorem ay_102_ok : ab_chk ay_W 4000 true true ay_102 = true := by decide +kernel
theorem ay_103_ok : ab_chk ay_W 4000 true true ay_103 = true := by decide +kernel
theorem ay_104_ok : ab_chk ay_W 4000 true true ay_104 = true := by decide +kernel
theorem ay_105_ok : ab_chk ay_W 4000 true true ay_105 = true := by decide +kernel
theorem ay_106_ok : ab_chk ay_W 4000 true true ay_106 = true := by decide +kernel
theorem ay_107_ok : ab_chk ay_W 4000 true true ay_107 = true := by decide +kernel
theorem ay_108_ok : ab_chk ay_W 4000 true true ay_108 = true := by decide +kernel
theorem ay_109_ok : ab_chk ay_W 4000 true true ay_109 = true := by decide +kernel
theorem ay_110_ok : ab_chk ay_W 4000 true true ay_110 = true := by decide +kernel
theorem ay_111_ok : ab_chk ay_W 4000 true true ay_111 = true := by decide +kernel
theorem ay_112_ok : ab_chk ay_W 4000 true true ay_112 = true := by decide +kernel
theorem ay_113_ok : ab_chk ay_W 4000 true true ay_113 = true := by decide +kernel
theorem ay_114_ok : ab_chk ay_W 4000 true true ay_114 = true := by decide +kernel
theorem ay_115_ok : ab_chk ay_W 4000 true true ay_115 = true := by decide +kernel

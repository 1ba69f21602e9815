/-! The meeting points hold, 12 -/
theorem ay_131_ok : ab_chk ay_W 4000 true true ay_131 = true := sorry
theorem ay_132_ok : ab_chk ay_W 4000 true true ay_132 = true := sorry
theorem ay_133_ok : ab_chk ay_W 4000 true true ay_133 = true := sorry
theorem ay_134_ok : ab_chk ay_W 4000 true true ay_134 = true := sorry
theorem ay_135_ok : ab_chk ay_W 4000 true true ay_135 = true := sorry
theorem ay_136_ok : ab_chk ay_W 4000 true true ay_136 = true := sorry
theorem ay_137_ok : ab_chk ay_W 4000 true true ay_137 = true := sorry
theorem ay_138_ok : ab_chk ay_W 4000 true true ay_138 = true := sorry
theorem ay_139_ok : ab_chk ay_W 4000 true true ay_139 = true := sorry
theorem ay_140_ok : ab_chk ay_W 4000 true true ay_140 = true := sorry
theorem ay_141_ok : ab_chk ay_W 4000 true true ay_141 = true := sorry
theorem ay_142_ok : ab_chk ay_W 4000 true true ay_142 = true := sorry
theorem ay_143_ok : ab_chk ay_W 4000 true true ay_143 = true := sorry
theorem ay_144_ok : ab_chk ay_W 4000 true true ay_144 = true := sorry
theorem ay_145_ok : ab_chk ay_W 4000 true true ay_145 = true := sorry

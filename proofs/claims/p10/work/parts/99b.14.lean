/-! The meeting points hold, 14 -/
theorem ay_164_ok : ab_chk ay_W 4000 true true ay_164 = true := by decide +kernel
theorem ay_165_ok : ab_chk ay_W 4000 true true ay_165 = true := by decide +kernel
theorem ay_166_ok : ab_chk ay_W 4000 true true ay_166 = true := by decide +kernel
theorem ay_167_ok : ab_chk ay_W 4000 true true ay_167 = true := by decide +kernel
theorem ay_168_ok : ab_chk ay_W 4000 true true ay_168 = true := by decide +kernel
theorem ay_169_ok : ab_chk ay_W 4000 true true ay_169 = true := by decide +kernel
theorem ay_170_ok : ab_chk ay_W 4000 true true ay_170 = true := by decide +kernel
theorem ay_171_ok : ab_chk ay_W 4000 true true ay_171 = true := by decide +kernel
theorem ay_172_ok : ab_chk ay_W 4000 true true ay_172 = true := by decide +kernel
theorem ay_173_ok : ab_chk ay_W 4000 true true ay_173 = true := by decide +kernel
theorem ay_174_ok : ab_chk ay_W 4000 true true ay_174 = true := by decide +kernel
theorem ay_175_ok : ab_chk ay_W 4000 true true ay_175 = true := by decide +kernel
theorem ay_176_ok : ab_chk ay_W 4000 true true ay_176 = true := by decide +kernel
theorem ay_177_ok : ab_chk ay_W 4000 true true ay_177 = true := by decide +kernel
theorem ay_178_ok : ab_chk ay_W 4000 true true ay_178 = true := by decide +kernel
theorem ay_179_ok : ab_chk ay_W 4000 true true ay_179 = true := by decide +kernel
theorem ay_180_ok : ab_chk ay_W 4000 true true ay_180 = true := by decide +kernel

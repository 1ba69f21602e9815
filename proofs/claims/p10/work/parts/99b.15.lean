/-! The meeting points hold, 15 -/
theorem ay_181_ok : ab_chk ay_W 4000 true true ay_181 = true := by decide +kernel
theorem ay_182_ok : ab_chk ay_W 4000 true true ay_182 = true := by decide +kernel
theorem ay_183_ok : ab_chk ay_W 4000 true true ay_183 = true := by decide +kernel
theorem ay_184_ok : ab_chk ay_W 4000 true true ay_184 = true := by decide +kernel
theorem ay_185_ok : ab_chk ay_W 4000 true true ay_185 = true := by decide +kernel
theorem ay_186_ok : ab_chk ay_W 4000 true true ay_186 = true := by decide +kernel
theorem ay_187_ok : ab_chk ay_W 4000 true true ay_187 = true := by decide +kernel
theorem ay_188_ok : ab_chk ay_W 4000 true true ay_188 = true := by decide +kernel
theorem ay_189_ok : ab_chk ay_W 4000 true true ay_189 = true := by decide +kernel
theorem ay_190_ok : ab_chk ay_W 4000 true true ay_190 = true := by decide +kernel
theorem ay_191_ok : ab_chk ay_W 4000 true true ay_191 = true := by decide +kernel
theorem ay_192_ok : ab_chk ay_W 4000 true true ay_192 = true := by decide +kernel
theorem ay_193_ok : ab_chk ay_W 4000 true true ay_193 = true := by decide +kernel
theorem ay_194_ok : ab_chk ay_W 4000 true true ay_194 = true := by decide +kernel
theorem ay_195_ok : ab_chk ay_W 4000 true true ay_195 = true := by decide +kernel
theorem ay_196_ok : ab_chk ay_W 4000 true true ay_196 = true := by decide +kernel

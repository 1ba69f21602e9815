/-! The meeting points hold, 15 -/
theorem ay_181_ok : ab_chk ay_W 4000 true true ay_181 = true := sorry
theorem ay_182_ok : ab_chk ay_W 4000 true true ay_182 = true := sorry
theorem ay_183_ok : ab_chk ay_W 4000 true true ay_183 = true := sorry
theorem ay_184_ok : ab_chk ay_W 4000 true true ay_184 = true := sorry
theorem ay_185_ok : ab_chk ay_W 4000 true true ay_185 = true := sorry
theorem ay_186_ok : ab_chk ay_W 4000 true true ay_186 = true := sorry
theorem ay_187_ok : ab_chk ay_W 4000 true true ay_187 = true := sorry
theorem ay_188_ok : ab_chk ay_W 4000 true true ay_188 = true := sorry
theorem ay_189_ok : ab_chk ay_W 4000 true true ay_189 = true := sorry
theorem ay_190_ok : ab_chk ay_W 4000 true true ay_190 = true := sorry
theorem ay_191_ok : ab_chk ay_W 4000 true true ay_191 = true := sorry
theorem ay_192_ok : ab_chk ay_W 4000 true true ay_192 = true := sorry
theorem ay_193_ok : ab_chk ay_W 4000 true true ay_193 = true := sorry
theorem ay_194_ok : ab_chk ay_W 4000 true true ay_194 = true := sorry
theorem ay_195_ok : ab_chk ay_W 4000 true true ay_195 = true := sorry
theorem ay_196_ok : ab_chk ay_W 4000 true true ay_196 = true := sorry

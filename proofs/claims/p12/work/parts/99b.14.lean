/-! The meeting points hold, 14 -/
theorem ay_212_ok : ab_chk ay_W 4000 false true ay_212 = true := af_ck (af_hy_ok rfl) (by decide +kernel)
theorem ay_213_ok : ab_chk ay_W 4000 false true ay_213 = true := af_ck (af_hy_ok rfl) (by decide +kernel)
theorem ay_214_ok : ab_chk ay_W 4000 false true ay_214 = true := af_ck (af_hy_ok rfl) (by decide +kernel)
theorem ay_215_ok : ab_chk ay_W 4000 false true ay_215 = true := af_ck (af_hy_ok rfl) (by decide +kernel)
theorem ay_216_ok : ab_chk ay_W 4000 false true ay_216 = true := af_ck (af_hy_ok rfl) (by decide +kernel)
theorem ay_217_ok : ab_chk ay_W 4000 false true ay_217 = true := af_ck (af_hy_ok rfl) (by decide +kernel)

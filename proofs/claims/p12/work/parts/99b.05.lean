/-! The meeting points hold, 5 -/
theorem ay_71_ok : ab_chk ay_W 4000 true true ay_71 = true := af_ck (af_hy_ok rfl) (by decide +kernel)
theorem ay_72_ok : ab_chk ay_W 4000 true true ay_72 = true := af_ck (af_hy_ok rfl) (by decide +kernel)
theorem ay_73_ok : ab_chk ay_W 4000 true true ay_73 = true := af_ck (af_hy_ok rfl) (by decide +kernel)

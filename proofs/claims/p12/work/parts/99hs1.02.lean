/-! The meeting points hold, 2 -/
theorem dr_6_ok : ab_chk dr_W 4000 true true dr_6 = true := af_ck (af_hy_ok rfl) (by decide +kernel)
theorem dr_7_ok : ab_chk dr_W 4000 true true dr_7 = true := af_ck (af_hy_ok rfl) (by decide +kernel)
theorem dr_8_ok : ab_chk dr_W 4000 true true dr_8 = true := af_ck (af_hy_ok rfl) (by decide +kernel)
theorem dr_9_ok : ab_chk dr_W 4000 true true dr_9 = true := af_ck (af_hy_ok rfl) (by decide +kernel)

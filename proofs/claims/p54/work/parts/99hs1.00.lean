/-! The meeting points hold, 0 -/
theorem dr_0_ok : ab_chk dr_W 4000 true true dr_0 = true := af_ck (af_hy_ok rfl) (by decide +kernel)
theorem dr_1_ok : ab_chk dr_W 4000 true true dr_1 = true := af_ck (af_hy_ok rfl) (by decide +kernel)
theorem dr_2_ok : ab_chk dr_W 4000 true true dr_2 = true := af_ck (af_hy_ok rfl) (by decide +kernel)
theorem dr_3_ok : ab_chk dr_W 4000 true true dr_3 = true := af_ck (af_hy_ok rfl) (by decide +kernel)

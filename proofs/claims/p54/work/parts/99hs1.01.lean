/-! The meeting points hold, 1 -/
theorem dr_4_ok : ab_chk dr_W 4000 true true dr_4 = true := af_ck (af_hy_ok rfl) (by decide +kernel)
theorem dr_5_ok : ab_chk dr_W 4000 true true dr_5 = true := af_ck (af_hy_ok rfl) (by decide +kernel)
theorem dr_6_ok : ab_chk dr_W 4000 true true dr_6 = true := af_ck (af_hy_ok rfl) (by decide +kernel)

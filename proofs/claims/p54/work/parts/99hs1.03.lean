/-! The meeting points hold, 3 -/
theorem dr_16_ok : ab_chk dr_W 4000 true true dr_16 = true := af_ck (af_hy_ok rfl) (by decide +kernel)
theorem dr_17_ok : ab_chk dr_W 4000 true true dr_17 = true := af_ck (af_hy_ok rfl) (by decide +kernel)
theorem dr_18_ok : ab_chk dr_W 4000 true true dr_18 = true := af_ck (af_hy_ok rfl) (by decide +kernel)
theorem dr_19_ok : ab_chk dr_W 4000 true true dr_19 = true := af_ck (af_hy_ok rfl) (by decide +kernel)
theorem dr_20_ok : ab_chk dr_W 4000 true true dr_20 = true := af_ck (af_hy_ok rfl) (by decide +kernel)
theorem dr_21_ok : ab_chk dr_W 4000 true true dr_21 = true := af_ck (af_hy_ok rfl) (by decide +kernel)
theorem dr_22_ok : ab_chk dr_W 4000 true true dr_22 = true := af_ck (af_hy_ok rfl) (by decide +kernel)
theorem dr_23_ok : ab_chk dr_W 4000 true true dr_23 = true := af_ck (af_hy_ok rfl) (by decide +kernel)

/-! The meeting points hold, 3 -/
theorem dr_10_ok : ab_chk dr_W 4000 true true dr_10 = true := af_ck (af_hy_ok rfl) (by decide +kernel)
theorem dr_11_ok : ab_chk dr_W 4000 true true dr_11 = true := af_ck (af_hy_ok rfl) (by decide +kernel)
theorem dr_12_ok : ab_chk dr_W 4000 true true dr_12 = true := af_ck (af_hy_ok rfl) (by decide +kernel)
theorem dr_13_ok : ab_chk dr_W 4000 true true dr_13 = true := af_ck (af_hy_ok rfl) (by decide +kernel)
theorem dr_14_ok : ab_chk dr_W 4000 true true dr_14 = true := af_ck (af_hy_ok rfl) (by decide +kernel)
theorem dr_15_ok : ab_chk dr_W 4000 true true dr_15 = true := af_ck (af_hy_ok rfl) (by decide +kernel)
theorem dr_16_ok : ab_chk dr_W 4000 true true dr_16 = true := af_ck (af_hy_ok rfl) (by decide +kernel)
theorem dr_17_ok : ab_chk dr_W 4000 true true dr_17 = true := af_ck (af_hy_ok rfl) (by decide +kernel)

/-! The meeting points hold, 7 -/
theorem dr_61_ok : ab_chk dr_W 4000 true true dr_61 = true := af_ck (af_hy_ok rfl) (by decide +kernel)
theorem dr_62_ok : ab_chk dr_W 4000 true true dr_62 = true := af_ck (af_hy_ok rfl) (by decide +kernel)
theorem dr_63_ok : ab_chk dr_W 4000 true true dr_63 = true := af_ck (af_hy_ok rfl) (by decide +kernel)
theorem dr_64_ok : ab_chk dr_W 4000 true true dr_64 = true := af_ck (af_hy_ok rfl) (by decide +kernel)
theorem dr_65_ok : ab_chk dr_W 4000 true true dr_65 = true := af_ck (af_hy_ok rfl) (by decide +kernel)
theorem dr_66_ok : ab_chk dr_W 4000 true true dr_66 = true := af_ck (af_hy_ok rfl) (by decide +kernel)
theorem dr_67_ok : ab_chk dr_W 4000 true true dr_67 = true := af_ck (af_hy_ok rfl) (by decide +kernel)
theorem dr_68_ok : ab_chk dr_W 4000 true true dr_68 = true := af_ck (af_hy_ok rfl) (by decide +kernel)

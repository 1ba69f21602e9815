/-! The meeting points hold, 9 -/
theorem dr_64_ok : ab_chk dr_W 4000 true true dr_64 = true := af_ck (af_hy_ok rfl) (by decide +kernel)
theorem dr_65_ok : ab_chk dr_W 4000 true true dr_65 = true := af_ck (af_hy_ok rfl) (by decide +kernel)
theorem dr_66_ok : ab_chk dr_W 4000 true true dr_66 = true := af_ck (af_hy_ok rfl) (by decide +kernel)
theorem dr_67_ok : ab_chk dr_W 4000 true true dr_67 = true := af_ck (af_hy_ok rfl) (by decide +kernel)
theorem dr_68_ok : ab_chk dr_W 4000 true true dr_68 = true := af_ck (af_hy_ok rfl) (by decide +kernel)
theorem dr_69_ok : ab_chk dr_W 4000 true true dr_69 = true := af_ck (af_hy_ok rfl) (by decide +kernel)
theorem dr_70_ok : ab_chk dr_W 4000 true true dr_70 = true := af_ck (af_hy_ok rfl) (by decide +kernel)
theorem dr_71_ok : ab_chk dr_W 4000 true true dr_71 = true := af_ck (af_hy_ok rfl) (by decide +kernel)

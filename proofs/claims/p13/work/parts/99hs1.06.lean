/-! The meeting points hold, 6 -/
theorem gr_99hs1_06_0 : ∀ t ∈ ([dr_65] : List ab_Tm), ab_chk dr_W 4000 true true t = true := bh_cks (rd_hq_ok rfl) (by decide +kernel)
theorem dr_65_ok : ab_chk dr_W 4000 true true dr_65 = true := gr_99hs1_06_0 _ List.mem_cons_self
theorem gr_99hs1_06_1 : ∀ t ∈ ([dr_66] : List ab_Tm), ab_chk dr_W 4000 true true t = true := bh_cks (rd_hq_ok rfl) (by decide +kernel)
theorem dr_66_ok : ab_chk dr_W 4000 true true dr_66 = true := gr_99hs1_06_1 _ List.mem_cons_self
theorem gr_99hs1_06_2 : ∀ t ∈ ([dr_67] : List ab_Tm), ab_chk dr_W 4000 true true t = true := bh_cks (rd_hq_ok rfl) (by decide +kernel)
theorem dr_67_ok : ab_chk dr_W 4000 true true dr_67 = true := gr_99hs1_06_2 _ List.mem_cons_self
theorem gr_99hs1_06_3 : ∀ t ∈ ([dr_68] : List ab_Tm), ab_chk dr_W 4000 true true t = true := bh_cks (rd_hq_ok rfl) (by decide +kernel)
theorem dr_68_ok : ab_chk dr_W 4000 true true dr_68 = true := gr_99hs1_06_3 _ List.mem_cons_self
theorem gr_99hs1_06_4 : ∀ t ∈ ([dr_69] : List ab_Tm), ab_chk dr_W 4000 true true t = true := bh_cks (rd_hq_ok rfl) (by decide +kernel)
theorem dr_69_ok : ab_chk dr_W 4000 true true dr_69 = true := gr_99hs1_06_4 _ List.mem_cons_self
theorem gr_99hs1_06_5 : ∀ t ∈ ([dr_70] : List ab_Tm), ab_chk dr_W 4000 true true t = true := bh_cks (rd_hq_ok rfl) (by decide +kernel)
theorem dr_70_ok : ab_chk dr_W 4000 true true dr_70 = true := gr_99hs1_06_5 _ List.mem_cons_self
theorem gr_99hs1_06_6 : ∀ t ∈ ([dr_71] : List ab_Tm), ab_chk dr_W 4000 true true t = true := bh_cks (rd_hq_ok rfl) (by decide +kernel)
theorem dr_71_ok : ab_chk dr_W 4000 true true dr_71 = true := gr_99hs1_06_6 _ List.mem_cons_self
theorem gr_99hs1_06_7 : ∀ t ∈ ([dr_72] : List ab_Tm), ab_chk dr_W 4000 true true t = true := bh_cks (rd_hq_ok rfl) (by decide +kernel)
theorem dr_72_ok : ab_chk dr_W 4000 true true dr_72 = true := gr_99hs1_06_7 _ List.mem_cons_self

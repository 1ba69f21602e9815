/-! The meeting points hold, 0 -/
theorem gr_99hs1_00_0 : ∀ t ∈ ([dr_0] : List ab_Tm), ab_chk dr_W 4000 true true t = true := bh_cks (rd_hq_ok rfl) (by decide +kernel)
theorem dr_0_ok : ab_chk dr_W 4000 true true dr_0 = true := gr_99hs1_00_0 _ List.mem_cons_self
theorem gr_99hs1_00_1 : ∀ t ∈ ([dr_1] : List ab_Tm), ab_chk dr_W 4000 true true t = true := bh_cks (rd_hq_ok rfl) (by decide +kernel)
theorem dr_1_ok : ab_chk dr_W 4000 true true dr_1 = true := gr_99hs1_00_1 _ List.mem_cons_self
theorem gr_99hs1_00_2 : ∀ t ∈ ([dr_2] : List ab_Tm), ab_chk dr_W 4000 true true t = true := bh_cks (rd_hq_ok rfl) (by decide +kernel)
theorem dr_2_ok : ab_chk dr_W 4000 true true dr_2 = true := gr_99hs1_00_2 _ List.mem_cons_self
theorem gr_99hs1_00_3 : ∀ t ∈ ([dr_3] : List ab_Tm), ab_chk dr_W 4000 true true t = true := bh_cks (rd_hq_ok rfl) (by decide +kernel)
theorem dr_3_ok : ab_chk dr_W 4000 true true dr_3 = true := gr_99hs1_00_3 _ List.mem_cons_self
theorem gr_99hs1_00_4 : ∀ t ∈ ([dr_4] : List ab_Tm), ab_chk dr_W 4000 true true t = true := bh_cks (rd_hq_ok rfl) (by decide +kernel)
theorem dr_4_ok : ab_chk dr_W 4000 true true dr_4 = true := gr_99hs1_00_4 _ List.mem_cons_self
theorem gr_99hs1_00_5 : ∀ t ∈ ([dr_5] : List ab_Tm), ab_chk dr_W 4000 true true t = true := bh_cks (rd_hq_ok rfl) (by decide +kernel)
theorem dr_5_ok : ab_chk dr_W 4000 true true dr_5 = true := gr_99hs1_00_5 _ List.mem_cons_self
theorem gr_99hs1_00_6 : ∀ t ∈ ([dr_6] : List ab_Tm), ab_chk dr_W 4000 true true t = true := bh_cks (rd_hq_ok rfl) (by decide +kernel)
theorem dr_6_ok : ab_chk dr_W 4000 true true dr_6 = true := gr_99hs1_00_6 _ List.mem_cons_self
theorem gr_99hs1_00_7 : ∀ t ∈ ([dr_7] : List ab_Tm), ab_chk dr_W 4000 true true t = true := bh_cks (rd_hq_ok rfl) (by decide +kernel)
theorem dr_7_ok : ab_chk dr_W 4000 true true dr_7 = true := gr_99hs1_00_7 _ List.mem_cons_self

/-! The meeting points hold, 1 -/
theorem gr_99hs1_01_0 : ∀ t ∈ ([dr_8] : List ab_Tm), ab_chk dr_W 4000 true true t = true := bh_cks (rd_hq_ok rfl) (by decide +kernel)
theorem dr_8_ok : ab_chk dr_W 4000 true true dr_8 = true := gr_99hs1_01_0 _ List.mem_cons_self
theorem gr_99hs1_01_1 : ∀ t ∈ ([dr_9] : List ab_Tm), ab_chk dr_W 4000 true true t = true := bh_cks (rd_hq_ok rfl) (by decide +kernel)
theorem dr_9_ok : ab_chk dr_W 4000 true true dr_9 = true := gr_99hs1_01_1 _ List.mem_cons_self
theorem gr_99hs1_01_2 : ∀ t ∈ ([dr_10] : List ab_Tm), ab_chk dr_W 4000 true true t = true := bh_cks (rd_hq_ok rfl) (by decide +kernel)
theorem dr_10_ok : ab_chk dr_W 4000 true true dr_10 = true := gr_99hs1_01_2 _ List.mem_cons_self
theorem gr_99hs1_01_3 : ∀ t ∈ ([dr_11] : List ab_Tm), ab_chk dr_W 4000 true true t = true := bh_cks (rd_hq_ok rfl) (by decide +kernel)
theorem dr_11_ok : ab_chk dr_W 4000 true true dr_11 = true := gr_99hs1_01_3 _ List.mem_cons_self
theorem gr_99hs1_01_4 : ∀ t ∈ ([dr_12] : List ab_Tm), ab_chk dr_W 4000 true true t = true := bh_cks (rd_hq_ok rfl) (by decide +kernel)
theorem dr_12_ok : ab_chk dr_W 4000 true true dr_12 = true := gr_99hs1_01_4 _ List.mem_cons_self
theorem gr_99hs1_01_5 : ∀ t ∈ ([dr_13] : List ab_Tm), ab_chk dr_W 4000 true true t = true := bh_cks (rd_hq_ok rfl) (by decide +kernel)
theorem dr_13_ok : ab_chk dr_W 4000 true true dr_13 = true := gr_99hs1_01_5 _ List.mem_cons_self
theorem gr_99hs1_01_6 : ∀ t ∈ ([dr_14] : List ab_Tm), ab_chk dr_W 4000 true true t = true := bh_cks (rd_hq_ok rfl) (by decide +kernel)
theorem dr_14_ok : ab_chk dr_W 4000 true true dr_14 = true := gr_99hs1_01_6 _ List.mem_cons_self
theorem gr_99hs1_01_7 : ∀ t ∈ ([dr_15] : List ab_Tm), ab_chk dr_W 4000 true true t = true := bh_cks (rd_hq_ok rfl) (by decide +kernel)
theorem dr_15_ok : ab_chk dr_W 4000 true true dr_15 = true := gr_99hs1_01_7 _ List.mem_cons_self

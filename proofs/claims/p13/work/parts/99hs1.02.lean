/-! The meeting points hold, 2 -/
theorem gr_99hs1_02_0 : ∀ t ∈ ([dr_16, dr_17] : List ab_Tm), ab_chk dr_W 4000 true true t = true := bh_cks (rd_hq_ok rfl) (by decide +kernel)
theorem dr_16_ok : ab_chk dr_W 4000 true true dr_16 = true := gr_99hs1_02_0 _ List.mem_cons_self
theorem dr_17_ok : ab_chk dr_W 4000 true true dr_17 = true := gr_99hs1_02_0 _ (List.mem_cons_of_mem _ List.mem_cons_self)
theorem gr_99hs1_02_1 : ∀ t ∈ ([dr_18, dr_19] : List ab_Tm), ab_chk dr_W 4000 true true t = true := bh_cks (rd_hq_ok rfl) (by decide +kernel)
theorem dr_18_ok : ab_chk dr_W 4000 true true dr_18 = true := gr_99hs1_02_1 _ List.mem_cons_self
theorem dr_19_ok : ab_chk dr_W 4000 true true dr_19 = true := gr_99hs1_02_1 _ (List.mem_cons_of_mem _ List.mem_cons_self)
theorem gr_99hs1_02_2 : ∀ t ∈ ([dr_20, dr_21] : List ab_Tm), ab_chk dr_W 4000 true true t = true := bh_cks (rd_hq_ok rfl) (by decide +kernel)
theorem dr_20_ok : ab_chk dr_W 4000 true true dr_20 = true := gr_99hs1_02_2 _ List.mem_cons_self
theorem dr_21_ok : ab_chk dr_W 4000 true true dr_21 = true := gr_99hs1_02_2 _ (List.mem_cons_of_mem _ List.mem_cons_self)
theorem gr_99hs1_02_3 : ∀ t ∈ ([dr_22, dr_23] : List ab_Tm), ab_chk dr_W 4000 true true t = true := bh_cks (rd_hq_ok rfl) (by decide +kernel)
theorem dr_22_ok : ab_chk dr_W 4000 true true dr_22 = true := gr_99hs1_02_3 _ List.mem_cons_self
theorem dr_23_ok : ab_chk dr_W 4000 true true dr_23 = true := gr_99hs1_02_3 _ (List.mem_cons_of_mem _ List.mem_cons_self)
theorem gr_99hs1_02_4 : ∀ t ∈ ([dr_24] : List ab_Tm), ab_chk dr_W 4000 true true t = true := bh_cks (rd_hq_ok rfl) (by decide +kernel)
theorem dr_24_ok : ab_chk dr_W 4000 true true dr_24 = true := gr_99hs1_02_4 _ List.mem_cons_self

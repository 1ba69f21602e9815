/-! The meeting points hold, 3 -/
theorem gr_99hs1_03_0 : ∀ t ∈ ([dr_25, dr_26] : List ab_Tm), ab_chk dr_W 4000 true true t = true := bh_cks (rd_hq_ok rfl) (by decide +kernel)
theorem dr_25_ok : ab_chk dr_W 4000 true true dr_25 = true := gr_99hs1_03_0 _ List.mem_cons_self
theorem dr_26_ok : ab_chk dr_W 4000 true true dr_26 = true := gr_99hs1_03_0 _ (List.mem_cons_of_mem _ List.mem_cons_self)
theorem gr_99hs1_03_1 : ∀ t ∈ ([dr_27, dr_28] : List ab_Tm), ab_chk dr_W 4000 true true t = true := bh_cks (rd_hq_ok rfl) (by decide +kernel)
theorem dr_27_ok : ab_chk dr_W 4000 true true dr_27 = true := gr_99hs1_03_1 _ List.mem_cons_self
theorem dr_28_ok : ab_chk dr_W 4000 true true dr_28 = true := gr_99hs1_03_1 _ (List.mem_cons_of_mem _ List.mem_cons_self)
theorem gr_99hs1_03_2 : ∀ t ∈ ([dr_29, dr_30] : List ab_Tm), ab_chk dr_W 4000 true true t = true := bh_cks (rd_hq_ok rfl) (by decide +kernel)
theorem dr_29_ok : ab_chk dr_W 4000 true true dr_29 = true := gr_99hs1_03_2 _ List.mem_cons_self
theorem dr_30_ok : ab_chk dr_W 4000 true true dr_30 = true := gr_99hs1_03_2 _ (List.mem_cons_of_mem _ List.mem_cons_self)
theorem gr_99hs1_03_3 : ∀ t ∈ ([dr_31, dr_32] : List ab_Tm), ab_chk dr_W 4000 true true t = true := bh_cks (rd_hq_ok rfl) (by decide +kernel)
theorem dr_31_ok : ab_chk dr_W 4000 true true dr_31 = true := gr_99hs1_03_3 _ List.mem_cons_self
theorem dr_32_ok : ab_chk dr_W 4000 true true dr_32 = true := gr_99hs1_03_3 _ (List.mem_cons_of_mem _ List.mem_cons_self)
theorem gr_99hs1_03_4 : ∀ t ∈ ([dr_33, dr_34] : List ab_Tm), ab_chk dr_W 4000 true true t = true := bh_cks (rd_hq_ok rfl) (by decide +kernel)
theorem dr_33_ok : ab_chk dr_W 4000 true true dr_33 = true := gr_99hs1_03_4 _ List.mem_cons_self
theorem dr_34_ok : ab_chk dr_W 4000 true true dr_34 = true := gr_99hs1_03_4 _ (List.mem_cons_of_mem _ List.mem_cons_self)
theorem gr_99hs1_03_5 : ∀ t ∈ ([dr_35] : List ab_Tm), ab_chk dr_W 4000 true true t = true := bh_cks (rd_hq_ok rfl) (by decide +kernel)
theorem dr_35_ok : ab_chk dr_W 4000 true true dr_35 = true := gr_99hs1_03_5 _ List.mem_cons_self

/-! The meeting points hold, 7 -/
theorem gr_99hs1_07_0 : ∀ t ∈ ([dr_73] : List ab_Tm), ab_chk dr_W 4000 true true t = true := bh_cks (rd_hq_ok rfl) (by decide +kernel)
theorem dr_73_ok : ab_chk dr_W 4000 true true dr_73 = true := gr_99hs1_07_0 _ List.mem_cons_self
theorem gr_99hs1_07_1 : ∀ t ∈ ([dr_74] : List ab_Tm), ab_chk dr_W 4000 true true t = true := bh_cks (rd_hq_ok rfl) (by decide +kernel)
theorem dr_74_ok : ab_chk dr_W 4000 true true dr_74 = true := gr_99hs1_07_1 _ List.mem_cons_self
theorem gr_99hs1_07_2 : ∀ t ∈ ([dr_75] : List ab_Tm), ab_chk dr_W 4000 true true t = true := bh_cks (rd_hq_ok rfl) (by decide +kernel)
theorem dr_75_ok : ab_chk dr_W 4000 true true dr_75 = true := gr_99hs1_07_2 _ List.mem_cons_self
theorem gr_99hs1_07_3 : ∀ t ∈ ([dr_76] : List ab_Tm), ab_chk dr_W 4000 true true t = true := bh_cks (rd_hq_ok rfl) (by decide +kernel)
theorem dr_76_ok : ab_chk dr_W 4000 true true dr_76 = true := gr_99hs1_07_3 _ List.mem_cons_self
theorem gr_99hs1_07_4 : ∀ t ∈ ([dr_77] : List ab_Tm), ab_chk dr_W 4000 true true t = true := bh_cks (rd_hq_ok rfl) (by decide +kernel)
theorem dr_77_ok : ab_chk dr_W 4000 true true dr_77 = true := gr_99hs1_07_4 _ List.mem_cons_self
theorem gr_99hs1_07_5 : ∀ t ∈ ([dr_78] : List ab_Tm), ab_chk dr_W 4000 true true t = true := bh_cks (rd_hq_ok rfl) (by decide +kernel)
theorem dr_78_ok : ab_chk dr_W 4000 true true dr_78 = true := gr_99hs1_07_5 _ List.mem_cons_self
theorem gr_99hs1_07_6 : ∀ t ∈ ([dr_79] : List ab_Tm), ab_chk dr_W 4000 true true t = true := bh_cks (rd_hq_ok rfl) (by decide +kernel)
theorem dr_79_ok : ab_chk dr_W 4000 true true dr_79 = true := gr_99hs1_07_6 _ List.mem_cons_self
theorem gr_99hs1_07_7 : ∀ t ∈ ([dr_80] : List ab_Tm), ab_chk dr_W 4000 true true t = true := bh_cks (rd_hq_ok rfl) (by decide +kernel)
theorem dr_80_ok : ab_chk dr_W 4000 true true dr_80 = true := gr_99hs1_07_7 _ List.mem_cons_self

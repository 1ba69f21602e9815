/-! The meeting points hold, 5 -/
theorem gr_99hs1_05_0 : ∀ t ∈ ([dr_49, dr_50] : List ab_Tm), ab_chk dr_W 4000 true true t = true := bh_cks (rd_hq_ok rfl) (by decide +kernel)
theorem dr_49_ok : ab_chk dr_W 4000 true true dr_49 = true := gr_99hs1_05_0 _ List.mem_cons_self
theorem dr_50_ok : ab_chk dr_W 4000 true true dr_50 = true := gr_99hs1_05_0 _ (List.mem_cons_of_mem _ List.mem_cons_self)
theorem gr_99hs1_05_1 : ∀ t ∈ ([dr_51, dr_52] : List ab_Tm), ab_chk dr_W 4000 true true t = true := bh_cks (rd_hq_ok rfl) (by decide +kernel)
theorem dr_51_ok : ab_chk dr_W 4000 true true dr_51 = true := gr_99hs1_05_1 _ List.mem_cons_self
theorem dr_52_ok : ab_chk dr_W 4000 true true dr_52 = true := gr_99hs1_05_1 _ (List.mem_cons_of_mem _ List.mem_cons_self)
theorem gr_99hs1_05_2 : ∀ t ∈ ([dr_53, dr_54] : List ab_Tm), ab_chk dr_W 4000 true true t = true := bh_cks (rd_hq_ok rfl) (by decide +kernel)
theorem dr_53_ok : ab_chk dr_W 4000 true true dr_53 = true := gr_99hs1_05_2 _ List.mem_cons_self
theorem dr_54_ok : ab_chk dr_W 4000 true true dr_54 = true := gr_99hs1_05_2 _ (List.mem_cons_of_mem _ List.mem_cons_self)
theorem gr_99hs1_05_3 : ∀ t ∈ ([dr_55, dr_56] : List ab_Tm), ab_chk dr_W 4000 true true t = true := bh_cks (rd_hq_ok rfl) (by decide +kernel)
theorem dr_55_ok : ab_chk dr_W 4000 true true dr_55 = true := gr_99hs1_05_3 _ List.mem_cons_self
theorem dr_56_ok : ab_chk dr_W 4000 true true dr_56 = true := gr_99hs1_05_3 _ (List.mem_cons_of_mem _ List.mem_cons_self)
theorem gr_99hs1_05_4 : ∀ t ∈ ([dr_57, dr_58] : List ab_Tm), ab_chk dr_W 4000 true true t = true := bh_cks (rd_hq_ok rfl) (by decide +kernel)
theorem dr_57_ok : ab_chk dr_W 4000 true true dr_57 = true := gr_99hs1_05_4 _ List.mem_cons_self
theorem dr_58_ok : ab_chk dr_W 4000 true true dr_58 = true := gr_99hs1_05_4 _ (List.mem_cons_of_mem _ List.mem_cons_self)
theorem gr_99hs1_05_5 : ∀ t ∈ ([dr_59, dr_60] : List ab_Tm), ab_chk dr_W 4000 true true t = true := bh_cks (rd_hq_ok rfl) (by decide +kernel)
theorem dr_59_ok : ab_chk dr_W 4000 true true dr_59 = true := gr_99hs1_05_5 _ List.mem_cons_self
theorem dr_60_ok : ab_chk dr_W 4000 true true dr_60 = true := gr_99hs1_05_5 _ (List.mem_cons_of_mem _ List.mem_cons_self)
theorem gr_99hs1_05_6 : ∀ t ∈ ([dr_61, dr_62] : List ab_Tm), ab_chk dr_W 4000 true true t = true := bh_cks (rd_hq_ok rfl) (by decide +kernel)
theorem dr_61_ok : ab_chk dr_W 4000 true true dr_61 = true := gr_99hs1_05_6 _ List.mem_cons_self
theorem dr_62_ok : ab_chk dr_W 4000 true true dr_62 = true := gr_99hs1_05_6 _ (List.mem_cons_of_mem _ List.mem_cons_self)
theorem gr_99hs1_05_7 : ∀ t ∈ ([dr_63, dr_64] : List ab_Tm), ab_chk dr_W 4000 true true t = true := bh_cks (rd_hq_ok rfl) (by decide +kernel)
theorem dr_63_ok : ab_chk dr_W 4000 true true dr_63 = true := gr_99hs1_05_7 _ List.mem_cons_self
theorem dr_64_ok : ab_chk dr_W 4000 true true dr_64 = true := gr_99hs1_05_7 _ (List.mem_cons_of_mem _ List.mem_cons_self)

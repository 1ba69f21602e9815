/-! The meeting points hold, 4 -/
theorem gr_99hs1_04_0 : ∀ t ∈ ([dr_36, dr_37] : List ab_Tm), ab_chk dr_W 4000 true true t = true := bh_cks (rd_hq_ok rfl) (by decide +kernel)
theorem dr_36_ok : ab_chk dr_W 4000 true true dr_36 = true := gr_99hs1_04_0 _ List.mem_cons_self
theorem dr_37_ok : ab_chk dr_W 4000 true true dr_37 = true := gr_99hs1_04_0 _ (List.mem_cons_of_mem _ List.mem_cons_self)
theorem gr_99hs1_04_1 : ∀ t ∈ ([dr_38, dr_39] : List ab_Tm), ab_chk dr_W 4000 true true t = true := bh_cks (rd_hq_ok rfl) (by decide +kernel)
theorem dr_38_ok : ab_chk dr_W 4000 true true dr_38 = true := gr_99hs1_04_1 _ List.mem_cons_self
theorem dr_39_ok : ab_chk dr_W 4000 true true dr_39 = true := gr_99hs1_04_1 _ (List.mem_cons_of_mem _ List.mem_cons_self)
theorem gr_99hs1_04_2 : ∀ t ∈ ([dr_40, dr_41] : List ab_Tm), ab_chk dr_W 4000 true true t = true := bh_cks (rd_hq_ok rfl) (by decide +kernel)
theorem dr_40_ok : ab_chk dr_W 4000 true true dr_40 = true := gr_99hs1_04_2 _ List.mem_cons_self
theorem dr_41_ok : ab_chk dr_W 4000 true true dr_41 = true := gr_99hs1_04_2 _ (List.mem_cons_of_mem _ List.mem_cons_self)
theorem gr_99hs1_04_3 : ∀ t ∈ ([dr_42, dr_43] : List ab_Tm), ab_chk dr_W 4000 true true t = true := bh_cks (rd_hq_ok rfl) (by decide +kernel)
theorem dr_42_ok : ab_chk dr_W 4000 true true dr_42 = true := gr_99hs1_04_3 _ List.mem_cons_self
theorem dr_43_ok : ab_chk dr_W 4000 true true dr_43 = true := gr_99hs1_04_3 _ (List.mem_cons_of_mem _ List.mem_cons_self)
theorem gr_99hs1_04_4 : ∀ t ∈ ([dr_44, dr_45] : List ab_Tm), ab_chk dr_W 4000 true true t = true := bh_cks (rd_hq_ok rfl) (by decide +kernel)
theorem dr_44_ok : ab_chk dr_W 4000 true true dr_44 = true := gr_99hs1_04_4 _ List.mem_cons_self
theorem dr_45_ok : ab_chk dr_W 4000 true true dr_45 = true := gr_99hs1_04_4 _ (List.mem_cons_of_mem _ List.mem_cons_self)
theorem gr_99hs1_04_5 : ∀ t ∈ ([dr_46, dr_47] : List ab_Tm), ab_chk dr_W 4000 true true t = true := bh_cks (rd_hq_ok rfl) (by decide +kernel)
theorem dr_46_ok : ab_chk dr_W 4000 true true dr_46 = true := gr_99hs1_04_5 _ List.mem_cons_self
theorem dr_47_ok : ab_chk dr_W 4000 true true dr_47 = true := gr_99hs1_04_5 _ (List.mem_cons_of_mem _ List.mem_cons_self)
theorem gr_99hs1_04_6 : ∀ t ∈ ([dr_48] : List ab_Tm), ab_chk dr_W 4000 true true t = true := bh_cks (rd_hq_ok rfl) (by decide +kernel)
theorem dr_48_ok : ab_chk dr_W 4000 true true dr_48 = true := gr_99hs1_04_6 _ List.mem_cons_self

/-! The meeting points hold, 14 -/
theorem gr_99hs1_14_0 : ∀ t ∈ ([dr_312, dr_313, dr_314] : List ab_Tm), ab_chk dr_W 4000 true true t = true := bh_cks (rd_hq_ok rfl) (by decide +kernel)
theorem dr_312_ok : ab_chk dr_W 4000 true true dr_312 = true := gr_99hs1_14_0 _ List.mem_cons_self
theorem dr_313_ok : ab_chk dr_W 4000 true true dr_313 = true := gr_99hs1_14_0 _ (List.mem_cons_of_mem _ List.mem_cons_self)
theorem dr_314_ok : ab_chk dr_W 4000 true true dr_314 = true := gr_99hs1_14_0 _ (List.mem_cons_of_mem _ (List.mem_cons_of_mem _ List.mem_cons_self))
theorem gr_99hs1_14_1 : ∀ t ∈ ([dr_315, dr_316, dr_317] : List ab_Tm), ab_chk dr_W 4000 true true t = true := bh_cks (rd_hq_ok rfl) (by decide +kernel)
theorem dr_315_ok : ab_chk dr_W 4000 true true dr_315 = true := gr_99hs1_14_1 _ List.mem_cons_self
theorem dr_316_ok : ab_chk dr_W 4000 true true dr_316 = true := gr_99hs1_14_1 _ (List.mem_cons_of_mem _ List.mem_cons_self)
theorem dr_317_ok : ab_chk dr_W 4000 true true dr_317 = true := gr_99hs1_14_1 _ (List.mem_cons_of_mem _ (List.mem_cons_of_mem _ List.mem_cons_self))
theorem gr_99hs1_14_2 : ∀ t ∈ ([dr_318, dr_319, dr_320] : List ab_Tm), ab_chk dr_W 4000 true true t = true := bh_cks (rd_hq_ok rfl) (by decide +kernel)
theorem dr_318_ok : ab_chk dr_W 4000 true true dr_318 = true := gr_99hs1_14_2 _ List.mem_cons_self
theorem dr_319_ok : ab_chk dr_W 4000 true true dr_319 = true := gr_99hs1_14_2 _ (List.mem_cons_of_mem _ List.mem_cons_self)
theorem dr_320_ok : ab_chk dr_W 4000 true true dr_320 = true := gr_99hs1_14_2 _ (List.mem_cons_of_mem _ (List.mem_cons_of_mem _ List.mem_cons_self))
theorem gr_99hs1_14_3 : ∀ t ∈ ([dr_321, dr_322, dr_323] : List ab_Tm), ab_chk dr_W 4000 true true t = true := bh_cks (rd_hq_ok rfl) (by decide +kernel)
theorem dr_321_ok : ab_chk dr_W 4000 true true dr_321 = true := gr_99hs1_14_3 _ List.mem_cons_self
theorem dr_322_ok : ab_chk dr_W 4000 true true dr_322 = true := gr_99hs1_14_3 _ (List.mem_cons_of_mem _ List.mem_cons_self)
theorem dr_323_ok : ab_chk dr_W 4000 true true dr_323 = true := gr_99hs1_14_3 _ (List.mem_cons_of_mem _ (List.mem_cons_of_mem _ List.mem_cons_self))
theorem gr_99hs1_14_4 : ∀ t ∈ ([dr_324] : List ab_Tm), ab_chk dr_W 4000 true true t = true := bh_cks (rd_hq_ok rfl) (by decide +kernel)
theorem dr_324_ok : ab_chk dr_W 4000 true true dr_324 = true := gr_99hs1_14_4 _ List.mem_cons_self
theorem gr_99hs1_14_5 : ∀ t ∈ ([dr_325] : List ab_Tm), ab_chk dr_W 4000 true false t = true := bh_cks (rd_hq_ok rfl) (by decide +kernel)
theorem dr_325_ok : ab_chk dr_W 4000 true false dr_325 = true := gr_99hs1_14_5 _ List.mem_cons_self
theorem gr_99hs1_14_6 : ∀ t ∈ ([dr_326] : List ab_Tm), ab_chk dr_W 4000 true false t = true := bh_cks (rd_hq_ok rfl) (by decide +kernel)
theorem dr_326_ok : ab_chk dr_W 4000 true false dr_326 = true := gr_99hs1_14_6 _ List.mem_cons_self

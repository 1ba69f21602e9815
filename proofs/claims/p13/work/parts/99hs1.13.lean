/-! The meeting points hold, 13 -/
theorem gr_99hs1_13_0 : ∀ t ∈ ([dr_292, dr_293, dr_294, dr_295] : List ab_Tm), ab_chk dr_W 4000 true true t = true := bh_cks (rd_hq_ok rfl) (by decide +kernel)
theorem dr_292_ok : ab_chk dr_W 4000 true true dr_292 = true := gr_99hs1_13_0 _ List.mem_cons_self
theorem dr_293_ok : ab_chk dr_W 4000 true true dr_293 = true := gr_99hs1_13_0 _ (List.mem_cons_of_mem _ List.mem_cons_self)
theorem dr_294_ok : ab_chk dr_W 4000 true true dr_294 = true := gr_99hs1_13_0 _ (List.mem_cons_of_mem _ (List.mem_cons_of_mem _ List.mem_cons_self))
theorem dr_295_ok : ab_chk dr_W 4000 true true dr_295 = true := gr_99hs1_13_0 _ (List.mem_cons_of_mem _ (List.mem_cons_of_mem _ (List.mem_cons_of_mem _ List.mem_cons_self)))
theorem gr_99hs1_13_1 : ∀ t ∈ ([dr_296, dr_297, dr_298, dr_299] : List ab_Tm), ab_chk dr_W 4000 true true t = true := bh_cks (rd_hq_ok rfl) (by decide +kernel)
theorem dr_296_ok : ab_chk dr_W 4000 true true dr_296 = true := gr_99hs1_13_1 _ List.mem_cons_self
theorem dr_297_ok : ab_chk dr_W 4000 true true dr_297 = true := gr_99hs1_13_1 _ (List.mem_cons_of_mem _ List.mem_cons_self)
theorem dr_298_ok : ab_chk dr_W 4000 true true dr_298 = true := gr_99hs1_13_1 _ (List.mem_cons_of_mem _ (List.mem_cons_of_mem _ List.mem_cons_self))
theorem dr_299_ok : ab_chk dr_W 4000 true true dr_299 = true := gr_99hs1_13_1 _ (List.mem_cons_of_mem _ (List.mem_cons_of_mem _ (List.mem_cons_of_mem _ List.mem_cons_self)))
theorem gr_99hs1_13_2 : ∀ t ∈ ([dr_300, dr_301, dr_302, dr_303] : List ab_Tm), ab_chk dr_W 4000 true true t = true := bh_cks (rd_hq_ok rfl) (by decide +kernel)
theorem dr_300_ok : ab_chk dr_W 4000 true true dr_300 = true := gr_99hs1_13_2 _ List.mem_cons_self
theorem dr_301_ok : ab_chk dr_W 4000 true true dr_301 = true := gr_99hs1_13_2 _ (List.mem_cons_of_mem _ List.mem_cons_self)
theorem dr_302_ok : ab_chk dr_W 4000 true true dr_302 = true := gr_99hs1_13_2 _ (List.mem_cons_of_mem _ (List.mem_cons_of_mem _ List.mem_cons_self))
theorem dr_303_ok : ab_chk dr_W 4000 true true dr_303 = true := gr_99hs1_13_2 _ (List.mem_cons_of_mem _ (List.mem_cons_of_mem _ (List.mem_cons_of_mem _ List.mem_cons_self)))
theorem gr_99hs1_13_3 : ∀ t ∈ ([dr_304, dr_305, dr_306, dr_307] : List ab_Tm), ab_chk dr_W 4000 true true t = true := bh_cks (rd_hq_ok rfl) (by decide +kernel)
theorem dr_304_ok : ab_chk dr_W 4000 true true dr_304 = true := gr_99hs1_13_3 _ List.mem_cons_self
theorem dr_305_ok : ab_chk dr_W 4000 true true dr_305 = true := gr_99hs1_13_3 _ (List.mem_cons_of_mem _ List.mem_cons_self)
theorem dr_306_ok : ab_chk dr_W 4000 true true dr_306 = true := gr_99hs1_13_3 _ (List.mem_cons_of_mem _ (List.mem_cons_of_mem _ List.mem_cons_self))
theorem dr_307_ok : ab_chk dr_W 4000 true true dr_307 = true := gr_99hs1_13_3 _ (List.mem_cons_of_mem _ (List.mem_cons_of_mem _ (List.mem_cons_of_mem _ List.mem_cons_self)))
theorem gr_99hs1_13_4 : ∀ t ∈ ([dr_308, dr_309, dr_310, dr_311] : List ab_Tm), ab_chk dr_W 4000 true true t = true := bh_cks (rd_hq_ok rfl) (by decide +kernel)
theorem dr_308_ok : ab_chk dr_W 4000 true true dr_308 = true := gr_99hs1_13_4 _ List.mem_cons_self
theorem dr_309_ok : ab_chk dr_W 4000 true true dr_309 = true := gr_99hs1_13_4 _ (List.mem_cons_of_mem _ List.mem_cons_self)
theorem dr_310_ok : ab_chk dr_W 4000 true true dr_310 = true := gr_99hs1_13_4 _ (List.mem_cons_of_mem _ (List.mem_cons_of_mem _ List.mem_cons_self))
theorem dr_311_ok : ab_chk dr_W 4000 true true dr_311 = true := gr_99hs1_13_4 _ (List.mem_cons_of_mem _ (List.mem_cons_of_mem _ (List.mem_cons_of_mem _ List.mem_cons_self)))

/-! The meeting points hold, 12 -/
theorem gr_99hs1_12_0 : ∀ t ∈ ([dr_272, dr_273, dr_274, dr_275] : List ab_Tm), ab_chk dr_W 4000 true true t = true := bh_cks (rd_hq_ok rfl) (by decide +kernel)
theorem dr_272_ok : ab_chk dr_W 4000 true true dr_272 = true := gr_99hs1_12_0 _ List.mem_cons_self
theorem dr_273_ok : ab_chk dr_W 4000 true true dr_273 = true := gr_99hs1_12_0 _ (List.mem_cons_of_mem _ List.mem_cons_self)
theorem dr_274_ok : ab_chk dr_W 4000 true true dr_274 = true := gr_99hs1_12_0 _ (List.mem_cons_of_mem _ (List.mem_cons_of_mem _ List.mem_cons_self))
theorem dr_275_ok : ab_chk dr_W 4000 true true dr_275 = true := gr_99hs1_12_0 _ (List.mem_cons_of_mem _ (List.mem_cons_of_mem _ (List.mem_cons_of_mem _ List.mem_cons_self)))
theorem gr_99hs1_12_1 : ∀ t ∈ ([dr_276, dr_277, dr_278, dr_279] : List ab_Tm), ab_chk dr_W 4000 true true t = true := bh_cks (rd_hq_ok rfl) (by decide +kernel)
theorem dr_276_ok : ab_chk dr_W 4000 true true dr_276 = true := gr_99hs1_12_1 _ List.mem_cons_self
theorem dr_277_ok : ab_chk dr_W 4000 true true dr_277 = true := gr_99hs1_12_1 _ (List.mem_cons_of_mem _ List.mem_cons_self)
theorem dr_278_ok : ab_chk dr_W 4000 true true dr_278 = true := gr_99hs1_12_1 _ (List.mem_cons_of_mem _ (List.mem_cons_of_mem _ List.mem_cons_self))
theorem dr_279_ok : ab_chk dr_W 4000 true true dr_279 = true := gr_99hs1_12_1 _ (List.mem_cons_of_mem _ (List.mem_cons_of_mem _ (List.mem_cons_of_mem _ List.mem_cons_self)))
theorem gr_99hs1_12_2 : ∀ t ∈ ([dr_280, dr_281, dr_282, dr_283] : List ab_Tm), ab_chk dr_W 4000 true true t = true := bh_cks (rd_hq_ok rfl) (by decide +kernel)
theorem dr_280_ok : ab_chk dr_W 4000 true true dr_280 = true := gr_99hs1_12_2 _ List.mem_cons_self
theorem dr_281_ok : ab_chk dr_W 4000 true true dr_281 = true := gr_99hs1_12_2 _ (List.mem_cons_of_mem _ List.mem_cons_self)
theorem dr_282_ok : ab_chk dr_W 4000 true true dr_282 = true := gr_99hs1_12_2 _ (List.mem_cons_of_mem _ (List.mem_cons_of_mem _ List.mem_cons_self))
theorem dr_283_ok : ab_chk dr_W 4000 true true dr_283 = true := gr_99hs1_12_2 _ (List.mem_cons_of_mem _ (List.mem_cons_of_mem _ (List.mem_cons_of_mem _ List.mem_cons_self)))
theorem gr_99hs1_12_3 : ∀ t ∈ ([dr_284, dr_285, dr_286, dr_287] : List ab_Tm), ab_chk dr_W 4000 true true t = true := bh_cks (rd_hq_ok rfl) (by decide +kernel)
theorem dr_284_ok : ab_chk dr_W 4000 true true dr_284 = true := gr_99hs1_12_3 _ List.mem_cons_self
theorem dr_285_ok : ab_chk dr_W 4000 true true dr_285 = true := gr_99hs1_12_3 _ (List.mem_cons_of_mem _ List.mem_cons_self)
theorem dr_286_ok : ab_chk dr_W 4000 true true dr_286 = true := gr_99hs1_12_3 _ (List.mem_cons_of_mem _ (List.mem_cons_of_mem _ List.mem_cons_self))
theorem dr_287_ok : ab_chk dr_W 4000 true true dr_287 = true := gr_99hs1_12_3 _ (List.mem_cons_of_mem _ (List.mem_cons_of_mem _ (List.mem_cons_of_mem _ List.mem_cons_self)))
theorem gr_99hs1_12_4 : ∀ t ∈ ([dr_288, dr_289, dr_290, dr_291] : List ab_Tm), ab_chk dr_W 4000 true true t = true := bh_cks (rd_hq_ok rfl) (by decide +kernel)
theorem dr_288_ok : ab_chk dr_W 4000 true true dr_288 = true := gr_99hs1_12_4 _ List.mem_cons_self
theorem dr_289_ok : ab_chk dr_W 4000 true true dr_289 = true := gr_99hs1_12_4 _ (List.mem_cons_of_mem _ List.mem_cons_self)
theorem dr_290_ok : ab_chk dr_W 4000 true true dr_290 = true := gr_99hs1_12_4 _ (List.mem_cons_of_mem _ (List.mem_cons_of_mem _ List.mem_cons_self))
theorem dr_291_ok : ab_chk dr_W 4000 true true dr_291 = true := gr_99hs1_12_4 _ (List.mem_cons_of_mem _ (List.mem_cons_of_mem _ (List.mem_cons_of_mem _ List.mem_cons_self)))

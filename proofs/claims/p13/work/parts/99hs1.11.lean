/-! The meeting points hold, 11 -/
theorem gr_99hs1_11_0 : ∀ t ∈ ([dr_250, dr_251, dr_252, dr_253] : List ab_Tm), ab_chk dr_W 4000 true true t = true := bh_cks (rd_hq_ok rfl) (by decide +kernel)
theorem dr_250_ok : ab_chk dr_W 4000 true true dr_250 = true := gr_99hs1_11_0 _ List.mem_cons_self
theorem dr_251_ok : ab_chk dr_W 4000 true true dr_251 = true := gr_99hs1_11_0 _ (List.mem_cons_of_mem _ List.mem_cons_self)
theorem dr_252_ok : ab_chk dr_W 4000 true true dr_252 = true := gr_99hs1_11_0 _ (List.mem_cons_of_mem _ (List.mem_cons_of_mem _ List.mem_cons_self))
theorem dr_253_ok : ab_chk dr_W 4000 true true dr_253 = true := gr_99hs1_11_0 _ (List.mem_cons_of_mem _ (List.mem_cons_of_mem _ (List.mem_cons_of_mem _ List.mem_cons_self)))
theorem gr_99hs1_11_1 : ∀ t ∈ ([dr_254, dr_255, dr_256, dr_257] : List ab_Tm), ab_chk dr_W 4000 true true t = true := bh_cks (rd_hq_ok rfl) (by decide +kernel)
theorem dr_254_ok : ab_chk dr_W 4000 true true dr_254 = true := gr_99hs1_11_1 _ List.mem_cons_self
theorem dr_255_ok : ab_chk dr_W 4000 true true dr_255 = true := gr_99hs1_11_1 _ (List.mem_cons_of_mem _ List.mem_cons_self)
theorem dr_256_ok : ab_chk dr_W 4000 true true dr_256 = true := gr_99hs1_11_1 _ (List.mem_cons_of_mem _ (List.mem_cons_of_mem _ List.mem_cons_self))
theorem dr_257_ok : ab_chk dr_W 4000 true true dr_257 = true := gr_99hs1_11_1 _ (List.mem_cons_of_mem _ (List.mem_cons_of_mem _ (List.mem_cons_of_mem _ List.mem_cons_self)))
theorem gr_99hs1_11_2 : ∀ t ∈ ([dr_258, dr_259, dr_260, dr_261] : List ab_Tm), ab_chk dr_W 4000 true true t = true := bh_cks (rd_hq_ok rfl) (by decide +kernel)
theorem dr_258_ok : ab_chk dr_W 4000 true true dr_258 = true := gr_99hs1_11_2 _ List.mem_cons_self
theorem dr_259_ok : ab_chk dr_W 4000 true true dr_259 = true := gr_99hs1_11_2 _ (List.mem_cons_of_mem _ List.mem_cons_self)
theorem dr_260_ok : ab_chk dr_W 4000 true true dr_260 = true := gr_99hs1_11_2 _ (List.mem_cons_of_mem _ (List.mem_cons_of_mem _ List.mem_cons_self))
theorem dr_261_ok : ab_chk dr_W 4000 true true dr_261 = true := gr_99hs1_11_2 _ (List.mem_cons_of_mem _ (List.mem_cons_of_mem _ (List.mem_cons_of_mem _ List.mem_cons_self)))
theorem gr_99hs1_11_3 : ∀ t ∈ ([dr_262, dr_263, dr_264, dr_265] : List ab_Tm), ab_chk dr_W 4000 true true t = true := bh_cks (rd_hq_ok rfl) (by decide +kernel)
theorem dr_262_ok : ab_chk dr_W 4000 true true dr_262 = true := gr_99hs1_11_3 _ List.mem_cons_self
theorem dr_263_ok : ab_chk dr_W 4000 true true dr_263 = true := gr_99hs1_11_3 _ (List.mem_cons_of_mem _ List.mem_cons_self)
theorem dr_264_ok : ab_chk dr_W 4000 true true dr_264 = true := gr_99hs1_11_3 _ (List.mem_cons_of_mem _ (List.mem_cons_of_mem _ List.mem_cons_self))
theorem dr_265_ok : ab_chk dr_W 4000 true true dr_265 = true := gr_99hs1_11_3 _ (List.mem_cons_of_mem _ (List.mem_cons_of_mem _ (List.mem_cons_of_mem _ List.mem_cons_self)))
theorem gr_99hs1_11_4 : ∀ t ∈ ([dr_266, dr_267, dr_268, dr_269] : List ab_Tm), ab_chk dr_W 4000 true true t = true := bh_cks (rd_hq_ok rfl) (by decide +kernel)
theorem dr_266_ok : ab_chk dr_W 4000 true true dr_266 = true := gr_99hs1_11_4 _ List.mem_cons_self
theorem dr_267_ok : ab_chk dr_W 4000 true true dr_267 = true := gr_99hs1_11_4 _ (List.mem_cons_of_mem _ List.mem_cons_self)
theorem dr_268_ok : ab_chk dr_W 4000 true true dr_268 = true := gr_99hs1_11_4 _ (List.mem_cons_of_mem _ (List.mem_cons_of_mem _ List.mem_cons_self))
theorem dr_269_ok : ab_chk dr_W 4000 true true dr_269 = true := gr_99hs1_11_4 _ (List.mem_cons_of_mem _ (List.mem_cons_of_mem _ (List.mem_cons_of_mem _ List.mem_cons_self)))
theorem gr_99hs1_11_5 : ∀ t ∈ ([dr_270, dr_271] : List ab_Tm), ab_chk dr_W 4000 true true t = true := bh_cks (rd_hq_ok rfl) (by decide +kernel)
theorem dr_270_ok : ab_chk dr_W 4000 true true dr_270 = true := gr_99hs1_11_5 _ List.mem_cons_self
theorem dr_271_ok : ab_chk dr_W 4000 true true dr_271 = true := gr_99hs1_11_5 _ (List.mem_cons_of_mem _ List.mem_cons_self)

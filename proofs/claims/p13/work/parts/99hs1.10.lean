/-! The meeting points hold, 10 -/
theorem gr_99hs1_10_0 : ∀ t ∈ ([dr_219, dr_220, dr_221, dr_222, dr_223, dr_224] : List ab_Tm), ab_chk dr_W 4000 true true t = true := bh_cks (rd_hq_ok rfl) (by decide +kernel)
theorem dr_219_ok : ab_chk dr_W 4000 true true dr_219 = true := gr_99hs1_10_0 _ List.mem_cons_self
theorem dr_220_ok : ab_chk dr_W 4000 true true dr_220 = true := gr_99hs1_10_0 _ (List.mem_cons_of_mem _ List.mem_cons_self)
theorem dr_221_ok : ab_chk dr_W 4000 true true dr_221 = true := gr_99hs1_10_0 _ (List.mem_cons_of_mem _ (List.mem_cons_of_mem _ List.mem_cons_self))
theorem dr_222_ok : ab_chk dr_W 4000 true true dr_222 = true := gr_99hs1_10_0 _ (List.mem_cons_of_mem _ (List.mem_cons_of_mem _ (List.mem_cons_of_mem _ List.mem_cons_self)))
theorem dr_223_ok : ab_chk dr_W 4000 true true dr_223 = true := gr_99hs1_10_0 _ (List.mem_cons_of_mem _ (List.mem_cons_of_mem _ (List.mem_cons_of_mem _ (List.mem_cons_of_mem _ List.mem_cons_self))))
theorem dr_224_ok : ab_chk dr_W 4000 true true dr_224 = true := gr_99hs1_10_0 _ (List.mem_cons_of_mem _ (List.mem_cons_of_mem _ (List.mem_cons_of_mem _ (List.mem_cons_of_mem _ (List.mem_cons_of_mem _ List.mem_cons_self)))))
theorem gr_99hs1_10_1 : ∀ t ∈ ([dr_225, dr_226, dr_227, dr_228, dr_229, dr_230] : List ab_Tm), ab_chk dr_W 4000 true true t = true := bh_cks (rd_hq_ok rfl) (by decide +kernel)
theorem dr_225_ok : ab_chk dr_W 4000 true true dr_225 = true := gr_99hs1_10_1 _ List.mem_cons_self
theorem dr_226_ok : ab_chk dr_W 4000 true true dr_226 = true := gr_99hs1_10_1 _ (List.mem_cons_of_mem _ List.mem_cons_self)
theorem dr_227_ok : ab_chk dr_W 4000 true true dr_227 = true := gr_99hs1_10_1 _ (List.mem_cons_of_mem _ (List.mem_cons_of_mem _ List.mem_cons_self))
theorem dr_228_ok : ab_chk dr_W 4000 true true dr_228 = true := gr_99hs1_10_1 _ (List.mem_cons_of_mem _ (List.mem_cons_of_mem _ (List.mem_cons_of_mem _ List.mem_cons_self)))
theorem dr_229_ok : ab_chk dr_W 4000 true true dr_229 = true := gr_99hs1_10_1 _ (List.mem_cons_of_mem _ (List.mem_cons_of_mem _ (List.mem_cons_of_mem _ (List.mem_cons_of_mem _ List.mem_cons_self))))
theorem dr_230_ok : ab_chk dr_W 4000 true true dr_230 = true := gr_99hs1_10_1 _ (List.mem_cons_of_mem _ (List.mem_cons_of_mem _ (List.mem_cons_of_mem _ (List.mem_cons_of_mem _ (List.mem_cons_of_mem _ List.mem_cons_self)))))
theorem gr_99hs1_10_2 : ∀ t ∈ ([dr_231, dr_232, dr_233, dr_234, dr_235, dr_236] : List ab_Tm), ab_chk dr_W 4000 true true t = true := bh_cks (rd_hq_ok rfl) (by decide +kernel)
theorem dr_231_ok : ab_chk dr_W 4000 true true dr_231 = true := gr_99hs1_10_2 _ List.mem_cons_self
theorem dr_232_ok : ab_chk dr_W 4000 true true dr_232 = true := gr_99hs1_10_2 _ (List.mem_cons_of_mem _ List.mem_cons_self)
theorem dr_233_ok : ab_chk dr_W 4000 true true dr_233 = true := gr_99hs1_10_2 _ (List.mem_cons_of_mem _ (List.mem_cons_of_mem _ List.mem_cons_self))
theorem dr_234_ok : ab_chk dr_W 4000 true true dr_234 = true := gr_99hs1_10_2 _ (List.mem_cons_of_mem _ (List.mem_cons_of_mem _ (List.mem_cons_of_mem _ List.mem_cons_self)))
theorem dr_235_ok : ab_chk dr_W 4000 true true dr_235 = true := gr_99hs1_10_2 _ (List.mem_cons_of_mem _ (List.mem_cons_of_mem _ (List.mem_cons_of_mem _ (List.mem_cons_of_mem _ List.mem_cons_self))))
theorem dr_236_ok : ab_chk dr_W 4000 true true dr_236 = true := gr_99hs1_10_2 _ (List.mem_cons_of_mem _ (List.mem_cons_of_mem _ (List.mem_cons_of_mem _ (List.mem_cons_of_mem _ (List.mem_cons_of_mem _ List.mem_cons_self)))))
theorem gr_99hs1_10_3 : ∀ t ∈ ([dr_237, dr_238, dr_239, dr_240, dr_241, dr_242] : List ab_Tm), ab_chk dr_W 4000 true true t = true := bh_cks (rd_hq_ok rfl) (by decide +kernel)
theorem dr_237_ok : ab_chk dr_W 4000 true true dr_237 = true := gr_99hs1_10_3 _ List.mem_cons_self
theorem dr_238_ok : ab_chk dr_W 4000 true true dr_238 = true := gr_99hs1_10_3 _ (List.mem_cons_of_mem _ List.mem_cons_self)
theorem dr_239_ok : ab_chk dr_W 4000 true true dr_239 = true := gr_99hs1_10_3 _ (List.mem_cons_of_mem _ (List.mem_cons_of_mem _ List.mem_cons_self))
theorem dr_240_ok : ab_chk dr_W 4000 true true dr_240 = true := gr_99hs1_10_3 _ (List.mem_cons_of_mem _ (List.mem_cons_of_mem _ (List.mem_cons_of_mem _ List.mem_cons_self)))
theorem dr_241_ok : ab_chk dr_W 4000 true true dr_241 = true := gr_99hs1_10_3 _ (List.mem_cons_of_mem _ (List.mem_cons_of_mem _ (List.mem_cons_of_mem _ (List.mem_cons_of_mem _ List.mem_cons_self))))
theorem dr_242_ok : ab_chk dr_W 4000 true true dr_242 = true := gr_99hs1_10_3 _ (List.mem_cons_of_mem _ (List.mem_cons_of_mem _ (List.mem_cons_of_mem _ (List.mem_cons_of_mem _ (List.mem_cons_of_mem _ List.mem_cons_self)))))
theorem gr_99hs1_10_4 : ∀ t ∈ ([dr_243, dr_244, dr_245, dr_246, dr_247, dr_248] : List ab_Tm), ab_chk dr_W 4000 true true t = true := bh_cks (rd_hq_ok rfl) (by decide +kernel)
theorem dr_243_ok : ab_chk dr_W 4000 true true dr_243 = true := gr_99hs1_10_4 _ List.mem_cons_self
theorem dr_244_ok : ab_chk dr_W 4000 true true dr_244 = true := gr_99hs1_10_4 _ (List.mem_cons_of_mem _ List.mem_cons_self)
theorem dr_245_ok : ab_chk dr_W 4000 true true dr_245 = true := gr_99hs1_10_4 _ (List.mem_cons_of_mem _ (List.mem_cons_of_mem _ List.mem_cons_self))
theorem dr_246_ok : ab_chk dr_W 4000 true true dr_246 = true := gr_99hs1_10_4 _ (List.mem_cons_of_mem _ (List.mem_cons_of_mem _ (List.mem_cons_of_mem _ List.mem_cons_self)))
theorem dr_247_ok : ab_chk dr_W 4000 true true dr_247 = true := gr_99hs1_10_4 _ (List.mem_cons_of_mem _ (List.mem_cons_of_mem _ (List.mem_cons_of_mem _ (List.mem_cons_of_mem _ List.mem_cons_self))))
theorem dr_248_ok : ab_chk dr_W 4000 true true dr_248 = true := gr_99hs1_10_4 _ (List.mem_cons_of_mem _ (List.mem_cons_of_mem _ (List.mem_cons_of_mem _ (List.mem_cons_of_mem _ (List.mem_cons_of_mem _ List.mem_cons_self)))))
theorem gr_99hs1_10_5 : ∀ t ∈ ([dr_249] : List ab_Tm), ab_chk dr_W 4000 true true t = true := bh_cks (rd_hq_ok rfl) (by decide +kernel)
theorem dr_249_ok : ab_chk dr_W 4000 true true dr_249 = true := gr_99hs1_10_5 _ List.mem_cons_self

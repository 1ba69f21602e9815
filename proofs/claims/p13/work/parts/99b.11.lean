/-! The meeting points hold, 11 -/
theorem gr_99b_11_0 : ∀ t ∈ ([ay_216, ay_217, ay_218, ay_219, ay_220] : List ab_Tm), ab_chk ay_W 4000 true true t = true := bh_cks (af_hy_ok rfl) (by decide +kernel)
theorem ay_216_ok : ab_chk ay_W 4000 true true ay_216 = true := gr_99b_11_0 _ List.mem_cons_self
theorem ay_217_ok : ab_chk ay_W 4000 true true ay_217 = true := gr_99b_11_0 _ (List.mem_cons_of_mem _ List.mem_cons_self)
theorem ay_218_ok : ab_chk ay_W 4000 true true ay_218 = true := gr_99b_11_0 _ (List.mem_cons_of_mem _ (List.mem_cons_of_mem _ List.mem_cons_self))
theorem ay_219_ok : ab_chk ay_W 4000 true true ay_219 = true := gr_99b_11_0 _ (List.mem_cons_of_mem _ (List.mem_cons_of_mem _ (List.mem_cons_of_mem _ List.mem_cons_self)))
theorem ay_220_ok : ab_chk ay_W 4000 true true ay_220 = true := gr_99b_11_0 _ (List.mem_cons_of_mem _ (List.mem_cons_of_mem _ (List.mem_cons_of_mem _ (List.mem_cons_of_mem _ List.mem_cons_self))))
theorem gr_99b_11_1 : ∀ t ∈ ([ay_221, ay_222, ay_223, ay_224, ay_225] : List ab_Tm), ab_chk ay_W 4000 true true t = true := bh_cks (af_hy_ok rfl) (by decide +kernel)
theorem ay_221_ok : ab_chk ay_W 4000 true true ay_221 = true := gr_99b_11_1 _ List.mem_cons_self
theorem ay_222_ok : ab_chk ay_W 4000 true true ay_222 = true := gr_99b_11_1 _ (List.mem_cons_of_mem _ List.mem_cons_self)
theorem ay_223_ok : ab_chk ay_W 4000 true true ay_223 = true := gr_99b_11_1 _ (List.mem_cons_of_mem _ (List.mem_cons_of_mem _ List.mem_cons_self))
theorem ay_224_ok : ab_chk ay_W 4000 true true ay_224 = true := gr_99b_11_1 _ (List.mem_cons_of_mem _ (List.mem_cons_of_mem _ (List.mem_cons_of_mem _ List.mem_cons_self)))
theorem ay_225_ok : ab_chk ay_W 4000 true true ay_225 = true := gr_99b_11_1 _ (List.mem_cons_of_mem _ (List.mem_cons_of_mem _ (List.mem_cons_of_mem _ (List.mem_cons_of_mem _ List.mem_cons_self))))
theorem gr_99b_11_2 : ∀ t ∈ ([ay_226, ay_227, ay_228, ay_229, ay_230] : List ab_Tm), ab_chk ay_W 4000 true true t = true := bh_cks (af_hy_ok rfl) (by decide +kernel)
theorem ay_226_ok : ab_chk ay_W 4000 true true ay_226 = true := gr_99b_11_2 _ List.mem_cons_self
theorem ay_227_ok : ab_chk ay_W 4000 true true ay_227 = true := gr_99b_11_2 _ (List.mem_cons_of_mem _ List.mem_cons_self)
theorem ay_228_ok : ab_chk ay_W 4000 true true ay_228 = true := gr_99b_11_2 _ (List.mem_cons_of_mem _ (List.mem_cons_of_mem _ List.mem_cons_self))
theorem ay_229_ok : ab_chk ay_W 4000 true true ay_229 = true := gr_99b_11_2 _ (List.mem_cons_of_mem _ (List.mem_cons_of_mem _ (List.mem_cons_of_mem _ List.mem_cons_self)))
theorem ay_230_ok : ab_chk ay_W 4000 true true ay_230 = true := gr_99b_11_2 _ (List.mem_cons_of_mem _ (List.mem_cons_of_mem _ (List.mem_cons_of_mem _ (List.mem_cons_of_mem _ List.mem_cons_self))))
theorem gr_99b_11_3 : ∀ t ∈ ([ay_231, ay_232, ay_233, ay_234, ay_235] : List ab_Tm), ab_chk ay_W 4000 true true t = true := bh_cks (af_hy_ok rfl) (by decide +kernel)
theorem ay_231_ok : ab_chk ay_W 4000 true true ay_231 = true := gr_99b_11_3 _ List.mem_cons_self
theorem ay_232_ok : ab_chk ay_W 4000 true true ay_232 = true := gr_99b_11_3 _ (List.mem_cons_of_mem _ List.mem_cons_self)
theorem ay_233_ok : ab_chk ay_W 4000 true true ay_233 = true := gr_99b_11_3 _ (List.mem_cons_of_mem _ (List.mem_cons_of_mem _ List.mem_cons_self))
theorem ay_234_ok : ab_chk ay_W 4000 true true ay_234 = true := gr_99b_11_3 _ (List.mem_cons_of_mem _ (List.mem_cons_of_mem _ (List.mem_cons_of_mem _ List.mem_cons_self)))
theorem ay_235_ok : ab_chk ay_W 4000 true true ay_235 = true := gr_99b_11_3 _ (List.mem_cons_of_mem _ (List.mem_cons_of_mem _ (List.mem_cons_of_mem _ (List.mem_cons_of_mem _ List.mem_cons_self))))

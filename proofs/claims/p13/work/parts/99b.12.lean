/-! The meeting points hold, 12 -/
theorem gr_99b_12_0 : ∀ t ∈ ([ay_236, ay_237, ay_238, ay_239, ay_240, ay_241, ay_242, ay_243, ay_244, ay_245] : List ab_Tm), ab_chk ay_W 4000 true true t = true := bh_cks (af_hy_ok rfl) (by decide +kernel)
theorem ay_236_ok : ab_chk ay_W 4000 true true ay_236 = true := gr_99b_12_0 _ List.mem_cons_self
theorem ay_237_ok : ab_chk ay_W 4000 true true ay_237 = true := gr_99b_12_0 _ (List.mem_cons_of_mem _ List.mem_cons_self)
theorem ay_238_ok : ab_chk ay_W 4000 true true ay_238 = true := gr_99b_12_0 _ (List.mem_cons_of_mem _ (List.mem_cons_of_mem _ List.mem_cons_self))
theorem ay_239_ok : ab_chk ay_W 4000 true true ay_239 = true := gr_99b_12_0 _ (List.mem_cons_of_mem _ (List.mem_cons_of_mem _ (List.mem_cons_of_mem _ List.mem_cons_self)))
theorem ay_240_ok : ab_chk ay_W 4000 true true ay_240 = true := gr_99b_12_0 _ (List.mem_cons_of_mem _ (List.mem_cons_of_mem _ (List.mem_cons_of_mem _ (List.mem_cons_of_mem _ List.mem_cons_self))))
theorem ay_241_ok : ab_chk ay_W 4000 true true ay_241 = true := gr_99b_12_0 _ (List.mem_cons_of_mem _ (List.mem_cons_of_mem _ (List.mem_cons_of_mem _ (List.mem_cons_of_mem _ (List.mem_cons_of_mem _ List.mem_cons_self)))))
theorem ay_242_ok : ab_chk ay_W 4000 true true ay_242 = true := gr_99b_12_0 _ (List.mem_cons_of_mem _ (List.mem_cons_of_mem _ (List.mem_cons_of_mem _ (List.mem_cons_of_mem _ (List.mem_cons_of_mem _ (List.mem_cons_of_mem _ List.mem_cons_self))))))
theorem ay_243_ok : ab_chk ay_W 4000 true true ay_243 = true := gr_99b_12_0 _ (List.mem_cons_of_mem _ (List.mem_cons_of_mem _ (List.mem_cons_of_mem _ (List.mem_cons_of_mem _ (List.mem_cons_of_mem _ (List.mem_cons_of_mem _ (List.mem_cons_of_mem _ List.mem_cons_self)))))))
theorem ay_244_ok : ab_chk ay_W 4000 true true ay_244 = true := gr_99b_12_0 _ (List.mem_cons_of_mem _ (List.mem_cons_of_mem _ (List.mem_cons_of_mem _ (List.mem_cons_of_mem _ (List.mem_cons_of_mem _ (List.mem_cons_of_mem _ (List.mem_cons_of_mem _ (List.mem_cons_of_mem _ List.mem_cons_self))))))))
theorem ay_245_ok : ab_chk ay_W 4000 true true ay_245 = true := gr_99b_12_0 _ (List.mem_cons_of_mem _ (List.mem_cons_of_mem _ (List.mem_cons_of_mem _ (List.mem_cons_of_mem _ (List.mem_cons_of_mem _ (List.mem_cons_of_mem _ (List.mem_cons_of_mem _ (List.mem_cons_of_mem _ (List.mem_cons_of_mem _ List.mem_cons_self)))))))))
theorem gr_99b_12_1 : ∀ t ∈ ([ay_246, ay_247, ay_248, ay_249, ay_250, ay_251, ay_252, ay_253, ay_254] : List ab_Tm), ab_chk ay_W 4000 true true t = true := bh_cks (af_hy_ok rfl) (by decide +kernel)
theorem ay_246_ok : ab_chk ay_W 4000 true true ay_246 = true := gr_99b_12_1 _ List.mem_cons_self
theorem ay_247_ok : ab_chk ay_W 4000 true true ay_247 = true := gr_99b_12_1 _ (List.mem_cons_of_mem _ List.mem_cons_self)
theorem ay_248_ok : ab_chk ay_W 4000 true true ay_248 = true := gr_99b_12_1 _ (List.mem_cons_of_mem _ (List.mem_cons_of_mem _ List.mem_cons_self))
theorem ay_249_ok : ab_chk ay_W 4000 true true ay_249 = true := gr_99b_12_1 _ (List.mem_cons_of_mem _ (List.mem_cons_of_mem _ (List.mem_cons_of_mem _ List.mem_cons_self)))
theorem ay_250_ok : ab_chk ay_W 4000 true true ay_250 = true := gr_99b_12_1 _ (List.mem_cons_of_mem _ (List.mem_cons_of_mem _ (List.mem_cons_of_mem _ (List.mem_cons_of_mem _ List.mem_cons_self))))
theorem ay_251_ok : ab_chk ay_W 4000 true true ay_251 = true := gr_99b_12_1 _ (List.mem_cons_of_mem _ (List.mem_cons_of_mem _ (List.mem_cons_of_mem _ (List.mem_cons_of_mem _ (List.mem_cons_of_mem _ List.mem_cons_self)))))
theorem ay_252_ok : ab_chk ay_W 4000 true true ay_252 = true := gr_99b_12_1 _ (List.mem_cons_of_mem _ (List.mem_cons_of_mem _ (List.mem_cons_of_mem _ (List.mem_cons_of_mem _ (List.mem_cons_of_mem _ (List.mem_cons_of_mem _ List.mem_cons_self))))))
theorem ay_253_ok : ab_chk ay_W 4000 true true ay_253 = true := gr_99b_12_1 _ (List.mem_cons_of_mem _ (List.mem_cons_of_mem _ (List.mem_cons_of_mem _ (List.mem_cons_of_mem _ (List.mem_cons_of_mem _ (List.mem_cons_of_mem _ (List.mem_cons_of_mem _ List.mem_cons_self)))))))
theorem ay_254_ok : ab_chk ay_W 4000 true true ay_254 = true := gr_99b_12_1 _ (List.mem_cons_of_mem _ (List.mem_cons_of_mem _ (List.mem_cons_of_mem _ (List.mem_cons_of_mem _ (List.mem_cons_of_mem _ (List.mem_cons_of_mem _ (List.mem_cons_of_mem _ (List.mem_cons_of_mem _ List.mem_cons_self))))))))
theorem gr_99b_12_2 : ∀ t ∈ ([ay_255, ay_256] : List ab_Tm), ab_chk ay_W 4000 false true t = true := bh_cks (af_hy_ok rfl) (by decide +kernel)
theorem ay_255_ok : ab_chk ay_W 4000 false true ay_255 = true := gr_99b_12_2 _ List.mem_cons_self
theorem ay_256_ok : ab_chk ay_W 4000 false true ay_256 = true := gr_99b_12_2 _ (List.mem_cons_of_mem _ List.mem_cons_self)
theorem gr_99b_12_3 : ∀ t ∈ ([ay_257, ay_258] : List ab_Tm), ab_chk ay_W 4000 false true t = true := bh_cks (af_hy_ok rfl) (by decide +kernel)
theorem ay_257_ok : ab_chk ay_W 4000 false true ay_257 = true := gr_99b_12_3 _ List.mem_cons_self
theorem ay_258_ok : ab_chk ay_W 4000 false true ay_258 = true := gr_99b_12_3 _ (List.mem_cons_of_mem _ List.mem_cons_self)

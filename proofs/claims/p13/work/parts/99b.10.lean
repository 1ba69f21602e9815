/-! The meeting points hold, 10 -/
theorem gr_99b_10_0 : ∀ t ∈ ([ay_195, ay_196, ay_197, ay_198, ay_199, ay_200] : List ab_Tm), ab_chk ay_W 4000 true true t = true := bh_cks (af_hy_ok rfl) (by decide +kernel)
theorem ay_195_ok : ab_chk ay_W 4000 true true ay_195 = true := gr_99b_10_0 _ List.mem_cons_self
theorem ay_196_ok : ab_chk ay_W 4000 true true ay_196 = true := gr_99b_10_0 _ (List.mem_cons_of_mem _ List.mem_cons_self)
theorem ay_197_ok : ab_chk ay_W 4000 true true ay_197 = true := gr_99b_10_0 _ (List.mem_cons_of_mem _ (List.mem_cons_of_mem _ List.mem_cons_self))
theorem ay_198_ok : ab_chk ay_W 4000 true true ay_198 = true := gr_99b_10_0 _ (List.mem_cons_of_mem _ (List.mem_cons_of_mem _ (List.mem_cons_of_mem _ List.mem_cons_self)))
theorem ay_199_ok : ab_chk ay_W 4000 true true ay_199 = true := gr_99b_10_0 _ (List.mem_cons_of_mem _ (List.mem_cons_of_mem _ (List.mem_cons_of_mem _ (List.mem_cons_of_mem _ List.mem_cons_self))))
theorem ay_200_ok : ab_chk ay_W 4000 true true ay_200 = true := gr_99b_10_0 _ (List.mem_cons_of_mem _ (List.mem_cons_of_mem _ (List.mem_cons_of_mem _ (List.mem_cons_of_mem _ (List.mem_cons_of_mem _ List.mem_cons_self)))))
theorem gr_99b_10_1 : ∀ t ∈ ([ay_201, ay_202, ay_203, ay_204, ay_205, ay_206] : List ab_Tm), ab_chk ay_W 4000 true true t = true := bh_cks (af_hy_ok rfl) (by decide +kernel)
theorem ay_201_ok : ab_chk ay_W 4000 true true ay_201 = true := gr_99b_10_1 _ List.mem_cons_self
theorem ay_202_ok : ab_chk ay_W 4000 true true ay_202 = true := gr_99b_10_1 _ (List.mem_cons_of_mem _ List.mem_cons_self)
theorem ay_203_ok : ab_chk ay_W 4000 true true ay_203 = true := gr_99b_10_1 _ (List.mem_cons_of_mem _ (List.mem_cons_of_mem _ List.mem_cons_self))
theorem ay_204_ok : ab_chk ay_W 4000 true true ay_204 = true := gr_99b_10_1 _ (List.mem_cons_of_mem _ (List.mem_cons_of_mem _ (List.mem_cons_of_mem _ List.mem_cons_self)))
theorem ay_205_ok : ab_chk ay_W 4000 true true ay_205 = true := gr_99b_10_1 _ (List.mem_cons_of_mem _ (List.mem_cons_of_mem _ (List.mem_cons_of_mem _ (List.mem_cons_of_mem _ List.mem_cons_self))))
theorem ay_206_ok : ab_chk ay_W 4000 true true ay_206 = true := gr_99b_10_1 _ (List.mem_cons_of_mem _ (List.mem_cons_of_mem _ (List.mem_cons_of_mem _ (List.mem_cons_of_mem _ (List.mem_cons_of_mem _ List.mem_cons_self)))))
theorem gr_99b_10_2 : ∀ t ∈ ([ay_207, ay_208, ay_209, ay_210, ay_211, ay_212] : List ab_Tm), ab_chk ay_W 4000 true true t = true := bh_cks (af_hy_ok rfl) (by decide +kernel)
theorem ay_207_ok : ab_chk ay_W 4000 true true ay_207 = true := gr_99b_10_2 _ List.mem_cons_self
theorem ay_208_ok : ab_chk ay_W 4000 true true ay_208 = true := gr_99b_10_2 _ (List.mem_cons_of_mem _ List.mem_cons_self)
theorem ay_209_ok : ab_chk ay_W 4000 true true ay_209 = true := gr_99b_10_2 _ (List.mem_cons_of_mem _ (List.mem_cons_of_mem _ List.mem_cons_self))
theorem ay_210_ok : ab_chk ay_W 4000 true true ay_210 = true := gr_99b_10_2 _ (List.mem_cons_of_mem _ (List.mem_cons_of_mem _ (List.mem_cons_of_mem _ List.mem_cons_self)))
theorem ay_211_ok : ab_chk ay_W 4000 true true ay_211 = true := gr_99b_10_2 _ (List.mem_cons_of_mem _ (List.mem_cons_of_mem _ (List.mem_cons_of_mem _ (List.mem_cons_of_mem _ List.mem_cons_self))))
theorem ay_212_ok : ab_chk ay_W 4000 true true ay_212 = true := gr_99b_10_2 _ (List.mem_cons_of_mem _ (List.mem_cons_of_mem _ (List.mem_cons_of_mem _ (List.mem_cons_of_mem _ (List.mem_cons_of_mem _ List.mem_cons_self)))))
theorem gr_99b_10_3 : ∀ t ∈ ([ay_213, ay_214, ay_215] : List ab_Tm), ab_chk ay_W 4000 true true t = true := bh_cks (af_hy_ok rfl) (by decide +kernel)
theorem ay_213_ok : ab_chk ay_W 4000 true true ay_213 = true := gr_99b_10_3 _ List.mem_cons_self
theorem ay_214_ok : ab_chk ay_W 4000 true true ay_214 = true := gr_99b_10_3 _ (List.mem_cons_of_mem _ List.mem_cons_self)
theorem ay_215_ok : ab_chk ay_W 4000 true true ay_215 = true := gr_99b_10_3 _ (List.mem_cons_of_mem _ (List.mem_cons_of_mem _ List.mem_cons_self))

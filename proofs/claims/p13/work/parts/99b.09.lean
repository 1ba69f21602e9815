/-! The meeting points hold, 9 -/
theorem gr_99b_09_0 : ∀ t ∈ ([ay_174, ay_175, ay_176, ay_177, ay_178, ay_179] : List ab_Tm), ab_chk ay_W 4000 true true t = true := bh_cks (af_hy_ok rfl) (by decide +kernel)
theorem ay_174_ok : ab_chk ay_W 4000 true true ay_174 = true := gr_99b_09_0 _ List.mem_cons_self
theorem ay_175_ok : ab_chk ay_W 4000 true true ay_175 = true := gr_99b_09_0 _ (List.mem_cons_of_mem _ List.mem_cons_self)
theorem ay_176_ok : ab_chk ay_W 4000 true true ay_176 = true := gr_99b_09_0 _ (List.mem_cons_of_mem _ (List.mem_cons_of_mem _ List.mem_cons_self))
theorem ay_177_ok : ab_chk ay_W 4000 true true ay_177 = true := gr_99b_09_0 _ (List.mem_cons_of_mem _ (List.mem_cons_of_mem _ (List.mem_cons_of_mem _ List.mem_cons_self)))
theorem ay_178_ok : ab_chk ay_W 4000 true true ay_178 = true := gr_99b_09_0 _ (List.mem_cons_of_mem _ (List.mem_cons_of_mem _ (List.mem_cons_of_mem _ (List.mem_cons_of_mem _ List.mem_cons_self))))
theorem ay_179_ok : ab_chk ay_W 4000 true true ay_179 = true := gr_99b_09_0 _ (List.mem_cons_of_mem _ (List.mem_cons_of_mem _ (List.mem_cons_of_mem _ (List.mem_cons_of_mem _ (List.mem_cons_of_mem _ List.mem_cons_self)))))
theorem gr_99b_09_1 : ∀ t ∈ ([ay_180, ay_181, ay_182, ay_183, ay_184, ay_185] : List ab_Tm), ab_chk ay_W 4000 true true t = true := bh_cks (af_hy_ok rfl) (by decide +kernel)
theorem ay_180_ok : ab_chk ay_W 4000 true true ay_180 = true := gr_99b_09_1 _ List.mem_cons_self
theorem ay_181_ok : ab_chk ay_W 4000 true true ay_181 = true := gr_99b_09_1 _ (List.mem_cons_of_mem _ List.mem_cons_self)
theorem ay_182_ok : ab_chk ay_W 4000 true true ay_182 = true := gr_99b_09_1 _ (List.mem_cons_of_mem _ (List.mem_cons_of_mem _ List.mem_cons_self))
theorem ay_183_ok : ab_chk ay_W 4000 true true ay_183 = true := gr_99b_09_1 _ (List.mem_cons_of_mem _ (List.mem_cons_of_mem _ (List.mem_cons_of_mem _ List.mem_cons_self)))
theorem ay_184_ok : ab_chk ay_W 4000 true true ay_184 = true := gr_99b_09_1 _ (List.mem_cons_of_mem _ (List.mem_cons_of_mem _ (List.mem_cons_of_mem _ (List.mem_cons_of_mem _ List.mem_cons_self))))
theorem ay_185_ok : ab_chk ay_W 4000 true true ay_185 = true := gr_99b_09_1 _ (List.mem_cons_of_mem _ (List.mem_cons_of_mem _ (List.mem_cons_of_mem _ (List.mem_cons_of_mem _ (List.mem_cons_of_mem _ List.mem_cons_self)))))
theorem gr_99b_09_2 : ∀ t ∈ ([ay_186, ay_187, ay_188, ay_189, ay_190, ay_191] : List ab_Tm), ab_chk ay_W 4000 true true t = true := bh_cks (af_hy_ok rfl) (by decide +kernel)
theorem ay_186_ok : ab_chk ay_W 4000 true true ay_186 = true := gr_99b_09_2 _ List.mem_cons_self
theorem ay_187_ok : ab_chk ay_W 4000 true true ay_187 = true := gr_99b_09_2 _ (List.mem_cons_of_mem _ List.mem_cons_self)
theorem ay_188_ok : ab_chk ay_W 4000 true true ay_188 = true := gr_99b_09_2 _ (List.mem_cons_of_mem _ (List.mem_cons_of_mem _ List.mem_cons_self))
theorem ay_189_ok : ab_chk ay_W 4000 true true ay_189 = true := gr_99b_09_2 _ (List.mem_cons_of_mem _ (List.mem_cons_of_mem _ (List.mem_cons_of_mem _ List.mem_cons_self)))
theorem ay_190_ok : ab_chk ay_W 4000 true true ay_190 = true := gr_99b_09_2 _ (List.mem_cons_of_mem _ (List.mem_cons_of_mem _ (List.mem_cons_of_mem _ (List.mem_cons_of_mem _ List.mem_cons_self))))
theorem ay_191_ok : ab_chk ay_W 4000 true true ay_191 = true := gr_99b_09_2 _ (List.mem_cons_of_mem _ (List.mem_cons_of_mem _ (List.mem_cons_of_mem _ (List.mem_cons_of_mem _ (List.mem_cons_of_mem _ List.mem_cons_self)))))
theorem gr_99b_09_3 : ∀ t ∈ ([ay_192, ay_193, ay_194] : List ab_Tm), ab_chk ay_W 4000 true true t = true := bh_cks (af_hy_ok rfl) (by decide +kernel)
theorem ay_192_ok : ab_chk ay_W 4000 true true ay_192 = true := gr_99b_09_3 _ List.mem_cons_self
theorem ay_193_ok : ab_chk ay_W 4000 true true ay_193 = true := gr_99b_09_3 _ (List.mem_cons_of_mem _ List.mem_cons_self)
theorem ay_194_ok : ab_chk ay_W 4000 true true ay_194 = true := gr_99b_09_3 _ (List.mem_cons_of_mem _ (List.mem_cons_of_mem _ List.mem_cons_self))

/-! The meeting points hold, 7 -/
theorem gr_99b_07_0 : ∀ t ∈ ([ay_129, ay_130, ay_131, ay_132, ay_133] : List ab_Tm), ab_chk ay_W 4000 true true t = true := bh_cks (af_hy_ok rfl) (by decide +kernel)
theorem ay_129_ok : ab_chk ay_W 4000 true true ay_129 = true := gr_99b_07_0 _ List.mem_cons_self
theorem ay_130_ok : ab_chk ay_W 4000 true true ay_130 = true := gr_99b_07_0 _ (List.mem_cons_of_mem _ List.mem_cons_self)
theorem ay_131_ok : ab_chk ay_W 4000 true true ay_131 = true := gr_99b_07_0 _ (List.mem_cons_of_mem _ (List.mem_cons_of_mem _ List.mem_cons_self))
theorem ay_132_ok : ab_chk ay_W 4000 true true ay_132 = true := gr_99b_07_0 _ (List.mem_cons_of_mem _ (List.mem_cons_of_mem _ (List.mem_cons_of_mem _ List.mem_cons_self)))
theorem ay_133_ok : ab_chk ay_W 4000 true true ay_133 = true := gr_99b_07_0 _ (List.mem_cons_of_mem _ (List.mem_cons_of_mem _ (List.mem_cons_of_mem _ (List.mem_cons_of_mem _ List.mem_cons_self))))
theorem gr_99b_07_1 : ∀ t ∈ ([ay_134, ay_135, ay_136, ay_137, ay_138] : List ab_Tm), ab_chk ay_W 4000 true true t = true := bh_cks (af_hy_ok rfl) (by decide +kernel)
theorem ay_134_ok : ab_chk ay_W 4000 true true ay_134 = true := gr_99b_07_1 _ List.mem_cons_self
theorem ay_135_ok : ab_chk ay_W 4000 true true ay_135 = true := gr_99b_07_1 _ (List.mem_cons_of_mem _ List.mem_cons_self)
theorem ay_136_ok : ab_chk ay_W 4000 true true ay_136 = true := gr_99b_07_1 _ (List.mem_cons_of_mem _ (List.mem_cons_of_mem _ List.mem_cons_self))
theorem ay_137_ok : ab_chk ay_W 4000 true true ay_137 = true := gr_99b_07_1 _ (List.mem_cons_of_mem _ (List.mem_cons_of_mem _ (List.mem_cons_of_mem _ List.mem_cons_self)))
theorem ay_138_ok : ab_chk ay_W 4000 true true ay_138 = true := gr_99b_07_1 _ (List.mem_cons_of_mem _ (List.mem_cons_of_mem _ (List.mem_cons_of_mem _ (List.mem_cons_of_mem _ List.mem_cons_self))))
theorem gr_99b_07_2 : ∀ t ∈ ([ay_139, ay_140, ay_141, ay_142, ay_143] : List ab_Tm), ab_chk ay_W 4000 true true t = true := bh_cks (af_hy_ok rfl) (by decide +kernel)
theorem ay_139_ok : ab_chk ay_W 4000 true true ay_139 = true := gr_99b_07_2 _ List.mem_cons_self
theorem ay_140_ok : ab_chk ay_W 4000 true true ay_140 = true := gr_99b_07_2 _ (List.mem_cons_of_mem _ List.mem_cons_self)
theorem ay_141_ok : ab_chk ay_W 4000 true true ay_141 = true := gr_99b_07_2 _ (List.mem_cons_of_mem _ (List.mem_cons_of_mem _ List.mem_cons_self))
theorem ay_142_ok : ab_chk ay_W 4000 true true ay_142 = true := gr_99b_07_2 _ (List.mem_cons_of_mem _ (List.mem_cons_of_mem _ (List.mem_cons_of_mem _ List.mem_cons_self)))
theorem ay_143_ok : ab_chk ay_W 4000 true true ay_143 = true := gr_99b_07_2 _ (List.mem_cons_of_mem _ (List.mem_cons_of_mem _ (List.mem_cons_of_mem _ (List.mem_cons_of_mem _ List.mem_cons_self))))
theorem gr_99b_07_3 : ∀ t ∈ ([ay_144, ay_145, ay_146, ay_147] : List ab_Tm), ab_chk ay_W 4000 true true t = true := bh_cks (af_hy_ok rfl) (by decide +kernel)
theorem ay_144_ok : ab_chk ay_W 4000 true true ay_144 = true := gr_99b_07_3 _ List.mem_cons_self
theorem ay_145_ok : ab_chk ay_W 4000 true true ay_145 = true := gr_99b_07_3 _ (List.mem_cons_of_mem _ List.mem_cons_self)
theorem ay_146_ok : ab_chk ay_W 4000 true true ay_146 = true := gr_99b_07_3 _ (List.mem_cons_of_mem _ (List.mem_cons_of_mem _ List.mem_cons_self))
theorem ay_147_ok : ab_chk ay_W 4000 true true ay_147 = true := gr_99b_07_3 _ (List.mem_cons_of_mem _ (List.mem_cons_of_mem _ (List.mem_cons_of_mem _ List.mem_cons_self)))

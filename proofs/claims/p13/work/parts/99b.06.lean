/-! The meeting points hold, 6 -/
theorem gr_99b_06_0 : ∀ t ∈ ([ay_118, ay_119, ay_120, ay_121, ay_122, ay_123] : List ab_Tm), ab_chk ay_W 4000 true true t = true := bh_cks (af_hy_ok rfl) (by decide +kernel)
theorem ay_118_ok : ab_chk ay_W 4000 true true ay_118 = true := gr_99b_06_0 _ List.mem_cons_self
theorem ay_119_ok : ab_chk ay_W 4000 true true ay_119 = true := gr_99b_06_0 _ (List.mem_cons_of_mem _ List.mem_cons_self)
theorem ay_120_ok : ab_chk ay_W 4000 true true ay_120 = true := gr_99b_06_0 _ (List.mem_cons_of_mem _ (List.mem_cons_of_mem _ List.mem_cons_self))
theorem ay_121_ok : ab_chk ay_W 4000 true true ay_121 = true := gr_99b_06_0 _ (List.mem_cons_of_mem _ (List.mem_cons_of_mem _ (List.mem_cons_of_mem _ List.mem_cons_self)))
theorem ay_122_ok : ab_chk ay_W 4000 true true ay_122 = true := gr_99b_06_0 _ (List.mem_cons_of_mem _ (List.mem_cons_of_mem _ (List.mem_cons_of_mem _ (List.mem_cons_of_mem _ List.mem_cons_self))))
theorem ay_123_ok : ab_chk ay_W 4000 true true ay_123 = true := gr_99b_06_0 _ (List.mem_cons_of_mem _ (List.mem_cons_of_mem _ (List.mem_cons_of_mem _ (List.mem_cons_of_mem _ (List.mem_cons_of_mem _ List.mem_cons_self)))))
theorem gr_99b_06_1 : ∀ t ∈ ([ay_124, ay_125, ay_126, ay_127, ay_128] : List ab_Tm), ab_chk ay_W 4000 true true t = true := bh_cks (af_hy_ok rfl) (by decide +kernel)
theorem ay_124_ok : ab_chk ay_W 4000 true true ay_124 = true := gr_99b_06_1 _ List.mem_cons_self
theorem ay_125_ok : ab_chk ay_W 4000 true true ay_125 = true := gr_99b_06_1 _ (List.mem_cons_of_mem _ List.mem_cons_self)
theorem ay_126_ok : ab_chk ay_W 4000 true true ay_126 = true := gr_99b_06_1 _ (List.mem_cons_of_mem _ (List.mem_cons_of_mem _ List.mem_cons_self))
theorem ay_127_ok : ab_chk ay_W 4000 true true ay_127 = true := gr_99b_06_1 _ (List.mem_cons_of_mem _ (List.mem_cons_of_mem _ (List.mem_cons_of_mem _ List.mem_cons_self)))
theorem ay_128_ok : ab_chk ay_W 4000 true true ay_128 = true := gr_99b_06_1 _ (List.mem_cons_of_mem _ (List.mem_cons_of_mem _ (List.mem_cons_of_mem _ (List.mem_cons_of_mem _ List.mem_cons_self))))

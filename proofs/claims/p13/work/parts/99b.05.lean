/-! The meeting points hold, 5 -/
theorem gr_99b_05_0 : ∀ t ∈ ([ay_107, ay_108, ay_109, ay_110, ay_111, ay_112] : List ab_Tm), ab_chk ay_W 4000 true true t = true := bh_cks (af_hy_ok rfl) (by decide +kernel)
theorem ay_107_ok : ab_chk ay_W 4000 true true ay_107 = true := gr_99b_05_0 _ List.mem_cons_self
theorem ay_108_ok : ab_chk ay_W 4000 true true ay_108 = true := gr_99b_05_0 _ (List.mem_cons_of_mem _ List.mem_cons_self)
theorem ay_109_ok : ab_chk ay_W 4000 true true ay_109 = true := gr_99b_05_0 _ (List.mem_cons_of_mem _ (List.mem_cons_of_mem _ List.mem_cons_self))
theorem ay_110_ok : ab_chk ay_W 4000 true true ay_110 = true := gr_99b_05_0 _ (List.mem_cons_of_mem _ (List.mem_cons_of_mem _ (List.mem_cons_of_mem _ List.mem_cons_self)))
theorem ay_111_ok : ab_chk ay_W 4000 true true ay_111 = true := gr_99b_05_0 _ (List.mem_cons_of_mem _ (List.mem_cons_of_mem _ (List.mem_cons_of_mem _ (List.mem_cons_of_mem _ List.mem_cons_self))))
theorem ay_112_ok : ab_chk ay_W 4000 true true ay_112 = true := gr_99b_05_0 _ (List.mem_cons_of_mem _ (List.mem_cons_of_mem _ (List.mem_cons_of_mem _ (List.mem_cons_of_mem _ (List.mem_cons_of_mem _ List.mem_cons_self)))))
theorem gr_99b_05_1 : ∀ t ∈ ([ay_113, ay_114, ay_115, ay_116, ay_117] : List ab_Tm), ab_chk ay_W 4000 true true t = true := bh_cks (af_hy_ok rfl) (by decide +kernel)
theorem ay_113_ok : ab_chk ay_W 4000 true true ay_113 = true := gr_99b_05_1 _ List.mem_cons_self
theorem ay_114_ok : ab_chk ay_W 4000 true true ay_114 = true := gr_99b_05_1 _ (List.mem_cons_of_mem _ List.mem_cons_self)
theorem ay_115_ok : ab_chk ay_W 4000 true true ay_115 = true := gr_99b_05_1 _ (List.mem_cons_of_mem _ (List.mem_cons_of_mem _ List.mem_cons_self))
theorem ay_116_ok : ab_chk ay_W 4000 true true ay_116 = true := gr_99b_05_1 _ (List.mem_cons_of_mem _ (List.mem_cons_of_mem _ (List.mem_cons_of_mem _ List.mem_cons_self)))
theorem ay_117_ok : ab_chk ay_W 4000 true true ay_117 = true := gr_99b_05_1 _ (List.mem_cons_of_mem _ (List.mem_cons_of_mem _ (List.mem_cons_of_mem _ (List.mem_cons_of_mem _ List.mem_cons_self))))

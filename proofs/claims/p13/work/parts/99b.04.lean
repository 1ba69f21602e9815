/-! The meeting points hold, 4 -/
theorem gr_99b_04_0 : ∀ t ∈ ([ay_91, ay_92, ay_93, ay_94, ay_95, ay_96, ay_97, ay_98] : List ab_Tm), ab_chk ay_W 4000 true true t = true := bh_cks (af_hy_ok rfl) (by decide +kernel)
theorem ay_91_ok : ab_chk ay_W 4000 true true ay_91 = true := gr_99b_04_0 _ List.mem_cons_self
theorem ay_92_ok : ab_chk ay_W 4000 true true ay_92 = true := gr_99b_04_0 _ (List.mem_cons_of_mem _ List.mem_cons_self)
theorem ay_93_ok : ab_chk ay_W 4000 true true ay_93 = true := gr_99b_04_0 _ (List.mem_cons_of_mem _ (List.mem_cons_of_mem _ List.mem_cons_self))
theorem ay_94_ok : ab_chk ay_W 4000 true true ay_94 = true := gr_99b_04_0 _ (List.mem_cons_of_mem _ (List.mem_cons_of_mem _ (List.mem_cons_of_mem _ List.mem_cons_self)))
theorem ay_95_ok : ab_chk ay_W 4000 true true ay_95 = true := gr_99b_04_0 _ (List.mem_cons_of_mem _ (List.mem_cons_of_mem _ (List.mem_cons_of_mem _ (List.mem_cons_of_mem _ List.mem_cons_self))))
theorem ay_96_ok : ab_chk ay_W 4000 true true ay_96 = true := gr_99b_04_0 _ (List.mem_cons_of_mem _ (List.mem_cons_of_mem _ (List.mem_cons_of_mem _ (List.mem_cons_of_mem _ (List.mem_cons_of_mem _ List.mem_cons_self)))))
theorem ay_97_ok : ab_chk ay_W 4000 true true ay_97 = true := gr_99b_04_0 _ (List.mem_cons_of_mem _ (List.mem_cons_of_mem _ (List.mem_cons_of_mem _ (List.mem_cons_of_mem _ (List.mem_cons_of_mem _ (List.mem_cons_of_mem _ List.mem_cons_self))))))
theorem ay_98_ok : ab_chk ay_W 4000 true true ay_98 = true := gr_99b_04_0 _ (List.mem_cons_of_mem _ (List.mem_cons_of_mem _ (List.mem_cons_of_mem _ (List.mem_cons_of_mem _ (List.mem_cons_of_mem _ (List.mem_cons_of_mem _ (List.mem_cons_of_mem _ List.mem_cons_self)))))))
theorem gr_99b_04_1 : ∀ t ∈ ([ay_99, ay_100, ay_101, ay_102, ay_103, ay_104, ay_105, ay_106] : List ab_Tm), ab_chk ay_W 4000 true true t = true := bh_cks (af_hy_ok rfl) (by decide +kernel)
theorem ay_99_ok : ab_chk ay_W 4000 true true ay_99 = true := gr_99b_04_1 _ List.mem_cons_self
theorem ay_100_ok : ab_chk ay_W 4000 true true ay_100 = true := gr_99b_04_1 _ (List.mem_cons_of_mem _ List.mem_cons_self)
theorem ay_101_ok : ab_chk ay_W 4000 true true ay_101 = true := gr_99b_04_1 _ (List.mem_cons_of_mem _ (List.mem_cons_of_mem _ List.mem_cons_self))
theorem ay_102_ok : ab_chk ay_W 4000 true true ay_102 = true := gr_99b_04_1 _ (List.mem_cons_of_mem _ (List.mem_cons_of_mem _ (List.mem_cons_of_mem _ List.mem_cons_self)))
theorem ay_103_ok : ab_chk ay_W 4000 true true ay_103 = true := gr_99b_04_1 _ (List.mem_cons_of_mem _ (List.mem_cons_of_mem _ (List.mem_cons_of_mem _ (List.mem_cons_of_mem _ List.mem_cons_self))))
theorem ay_104_ok : ab_chk ay_W 4000 true true ay_104 = true := gr_99b_04_1 _ (List.mem_cons_of_mem _ (List.mem_cons_of_mem _ (List.mem_cons_of_mem _ (List.mem_cons_of_mem _ (List.mem_cons_of_mem _ List.mem_cons_self)))))
theorem ay_105_ok : ab_chk ay_W 4000 true true ay_105 = true := gr_99b_04_1 _ (List.mem_cons_of_mem _ (List.mem_cons_of_mem _ (List.mem_cons_of_mem _ (List.mem_cons_of_mem _ (List.mem_cons_of_mem _ (List.mem_cons_of_mem _ List.mem_cons_self))))))
theorem ay_106_ok : ab_chk ay_W 4000 true true ay_106 = true := gr_99b_04_1 _ (List.mem_cons_of_mem _ (List.mem_cons_of_mem _ (List.mem_cons_of_mem _ (List.mem_cons_of_mem _ (List.mem_cons_of_mem _ (List.mem_cons_of_mem _ (List.mem_cons_of_mem _ List.mem_cons_self)))))))

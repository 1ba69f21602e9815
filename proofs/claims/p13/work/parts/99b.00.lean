/-! The meeting points hold, 0 -/
theorem gr_99b_00_0 : ∀ t ∈ ([ay_0, ay_2, ay_3, ay_4, ay_5, ay_6, ay_7, ay_8] : List ab_Tm), ab_chk ay_W 4000 true true t = true := bh_cks (af_hy_ok rfl) (by decide +kernel)
theorem ay_0_ok : ab_chk ay_W 4000 true true ay_0 = true := gr_99b_00_0 _ List.mem_cons_self
theorem ay_2_ok : ab_chk ay_W 4000 true true ay_2 = true := gr_99b_00_0 _ (List.mem_cons_of_mem _ List.mem_cons_self)
theorem ay_3_ok : ab_chk ay_W 4000 true true ay_3 = true := gr_99b_00_0 _ (List.mem_cons_of_mem _ (List.mem_cons_of_mem _ List.mem_cons_self))
theorem ay_4_ok : ab_chk ay_W 4000 true true ay_4 = true := gr_99b_00_0 _ (List.mem_cons_of_mem _ (List.mem_cons_of_mem _ (List.mem_cons_of_mem _ List.mem_cons_self)))
theorem ay_5_ok : ab_chk ay_W 4000 true true ay_5 = true := gr_99b_00_0 _ (List.mem_cons_of_mem _ (List.mem_cons_of_mem _ (List.mem_cons_of_mem _ (List.mem_cons_of_mem _ List.mem_cons_self))))
theorem ay_6_ok : ab_chk ay_W 4000 true true ay_6 = true := gr_99b_00_0 _ (List.mem_cons_of_mem _ (List.mem_cons_of_mem _ (List.mem_cons_of_mem _ (List.mem_cons_of_mem _ (List.mem_cons_of_mem _ List.mem_cons_self)))))
theorem ay_7_ok : ab_chk ay_W 4000 true true ay_7 = true := gr_99b_00_0 _ (List.mem_cons_of_mem _ (List.mem_cons_of_mem _ (List.mem_cons_of_mem _ (List.mem_cons_of_mem _ (List.mem_cons_of_mem _ (List.mem_cons_of_mem _ List.mem_cons_self))))))
theorem ay_8_ok : ab_chk ay_W 4000 true true ay_8 = true := gr_99b_00_0 _ (List.mem_cons_of_mem _ (List.mem_cons_of_mem _ (List.mem_cons_of_mem _ (List.mem_cons_of_mem _ (List.mem_cons_of_mem _ (List.mem_cons_of_mem _ (List.mem_cons_of_mem _ List.mem_cons_self)))))))
theorem gr_99b_00_1 : ∀ t ∈ ([ay_9, ay_10, ay_11, ay_12, ay_13, ay_14, ay_15] : List ab_Tm), ab_chk ay_W 4000 true true t = true := bh_cks (af_hy_ok rfl) (by decide +kernel)
theorem ay_9_ok : ab_chk ay_W 4000 true true ay_9 = true := gr_99b_00_1 _ List.mem_cons_self
theorem ay_10_ok : ab_chk ay_W 4000 true true ay_10 = true := gr_99b_00_1 _ (List.mem_cons_of_mem _ List.mem_cons_self)
theorem ay_11_ok : ab_chk ay_W 4000 true true ay_11 = true := gr_99b_00_1 _ (List.mem_cons_of_mem _ (List.mem_cons_of_mem _ List.mem_cons_self))
theorem ay_12_ok : ab_chk ay_W 4000 true true ay_12 = true := gr_99b_00_1 _ (List.mem_cons_of_mem _ (List.mem_cons_of_mem _ (List.mem_cons_of_mem _ List.mem_cons_self)))
theorem ay_13_ok : ab_chk ay_W 4000 true true ay_13 = true := gr_99b_00_1 _ (List.mem_cons_of_mem _ (List.mem_cons_of_mem _ (List.mem_cons_of_mem _ (List.mem_cons_of_mem _ List.mem_cons_self))))
theorem ay_14_ok : ab_chk ay_W 4000 true true ay_14 = true := gr_99b_00_1 _ (List.mem_cons_of_mem _ (List.mem_cons_of_mem _ (List.mem_cons_of_mem _ (List.mem_cons_of_mem _ (List.mem_cons_of_mem _ List.mem_cons_self)))))
theorem ay_15_ok : ab_chk ay_W 4000 true true ay_15 = true := gr_99b_00_1 _ (List.mem_cons_of_mem _ (List.mem_cons_of_mem _ (List.mem_cons_of_mem _ (List.mem_cons_of_mem _ (List.mem_cons_of_mem _ (List.mem_cons_of_mem _ List.mem_cons_self))))))

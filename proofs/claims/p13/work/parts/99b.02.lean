/-! The meeting points hold, 2 -/
theorem gr_99b_02_0 : ∀ t ∈ ([ay_46, ay_47, ay_48, ay_49, ay_50, ay_51] : List ab_Tm), ab_chk ay_W 4000 true true t = true := bh_cks (af_hy_ok rfl) (by decide +kernel)
theorem ay_46_ok : ab_chk ay_W 4000 true true ay_46 = true := gr_99b_02_0 _ List.mem_cons_self
theorem ay_47_ok : ab_chk ay_W 4000 true true ay_47 = true := gr_99b_02_0 _ (List.mem_cons_of_mem _ List.mem_cons_self)
theorem ay_48_ok : ab_chk ay_W 4000 true true ay_48 = true := gr_99b_02_0 _ (List.mem_cons_of_mem _ (List.mem_cons_of_mem _ List.mem_cons_self))
theorem ay_49_ok : ab_chk ay_W 4000 true true ay_49 = true := gr_99b_02_0 _ (List.mem_cons_of_mem _ (List.mem_cons_of_mem _ (List.mem_cons_of_mem _ List.mem_cons_self)))
theorem ay_50_ok : ab_chk ay_W 4000 true true ay_50 = true := gr_99b_02_0 _ (List.mem_cons_of_mem _ (List.mem_cons_of_mem _ (List.mem_cons_of_mem _ (List.mem_cons_of_mem _ List.mem_cons_self))))
theorem ay_51_ok : ab_chk ay_W 4000 true true ay_51 = true := gr_99b_02_0 _ (List.mem_cons_of_mem _ (List.mem_cons_of_mem _ (List.mem_cons_of_mem _ (List.mem_cons_of_mem _ (List.mem_cons_of_mem _ List.mem_cons_self)))))
theorem gr_99b_02_1 : ∀ t ∈ ([ay_52, ay_53, ay_54, ay_55, ay_56, ay_57] : List ab_Tm), ab_chk ay_W 4000 true true t = true := bh_cks (af_hy_ok rfl) (by decide +kernel)
theorem ay_52_ok : ab_chk ay_W 4000 true true ay_52 = true := gr_99b_02_1 _ List.mem_cons_self
theorem ay_53_ok : ab_chk ay_W 4000 true true ay_53 = true := gr_99b_02_1 _ (List.mem_cons_of_mem _ List.mem_cons_self)
theorem ay_54_ok : ab_chk ay_W 4000 true true ay_54 = true := gr_99b_02_1 _ (List.mem_cons_of_mem _ (List.mem_cons_of_mem _ List.mem_cons_self))
theorem ay_55_ok : ab_chk ay_W 4000 true true ay_55 = true := gr_99b_02_1 _ (List.mem_cons_of_mem _ (List.mem_cons_of_mem _ (List.mem_cons_of_mem _ List.mem_cons_self)))
theorem ay_56_ok : ab_chk ay_W 4000 true true ay_56 = true := gr_99b_02_1 _ (List.mem_cons_of_mem _ (List.mem_cons_of_mem _ (List.mem_cons_of_mem _ (List.mem_cons_of_mem _ List.mem_cons_self))))
theorem ay_57_ok : ab_chk ay_W 4000 true true ay_57 = true := gr_99b_02_1 _ (List.mem_cons_of_mem _ (List.mem_cons_of_mem _ (List.mem_cons_of_mem _ (List.mem_cons_of_mem _ (List.mem_cons_of_mem _ List.mem_cons_self)))))
theorem gr_99b_02_2 : ∀ t ∈ ([ay_58, ay_59, ay_60, ay_61, ay_62, ay_63] : List ab_Tm), ab_chk ay_W 4000 true true t = true := bh_cks (af_hy_ok rfl) (by decide +kernel)
theorem ay_58_ok : ab_chk ay_W 4000 true true ay_58 = true := gr_99b_02_2 _ List.mem_cons_self
theorem ay_59_ok : ab_chk ay_W 4000 true true ay_59 = true := gr_99b_02_2 _ (List.mem_cons_of_mem _ List.mem_cons_self)
theorem ay_60_ok : ab_chk ay_W 4000 true true ay_60 = true := gr_99b_02_2 _ (List.mem_cons_of_mem _ (List.mem_cons_of_mem _ List.mem_cons_self))
theorem ay_61_ok : ab_chk ay_W 4000 true true ay_61 = true := gr_99b_02_2 _ (List.mem_cons_of_mem _ (List.mem_cons_of_mem _ (List.mem_cons_of_mem _ List.mem_cons_self)))
theorem ay_62_ok : ab_chk ay_W 4000 true true ay_62 = true := gr_99b_02_2 _ (List.mem_cons_of_mem _ (List.mem_cons_of_mem _ (List.mem_cons_of_mem _ (List.mem_cons_of_mem _ List.mem_cons_self))))
theorem ay_63_ok : ab_chk ay_W 4000 true true ay_63 = true := gr_99b_02_2 _ (List.mem_cons_of_mem _ (List.mem_cons_of_mem _ (List.mem_cons_of_mem _ (List.mem_cons_of_mem _ (List.mem_cons_of_mem _ List.mem_cons_self)))))
theorem gr_99b_02_3 : ∀ t ∈ ([ay_64, ay_65, ay_66, ay_67, ay_68, ay_69] : List ab_Tm), ab_chk ay_W 4000 true true t = true := bh_cks (af_hy_ok rfl) (by decide +kernel)
theorem ay_64_ok : ab_chk ay_W 4000 true true ay_64 = true := gr_99b_02_3 _ List.mem_cons_self
theorem ay_65_ok : ab_chk ay_W 4000 true true ay_65 = true := gr_99b_02_3 _ (List.mem_cons_of_mem _ List.mem_cons_self)
theorem ay_66_ok : ab_chk ay_W 4000 true true ay_66 = true := gr_99b_02_3 _ (List.mem_cons_of_mem _ (List.mem_cons_of_mem _ List.mem_cons_self))
theorem ay_67_ok : ab_chk ay_W 4000 true true ay_67 = true := gr_99b_02_3 _ (List.mem_cons_of_mem _ (List.mem_cons_of_mem _ (List.mem_cons_of_mem _ List.mem_cons_self)))
theorem ay_68_ok : ab_chk ay_W 4000 true true ay_68 = true := gr_99b_02_3 _ (List.mem_cons_of_mem _ (List.mem_cons_of_mem _ (List.mem_cons_of_mem _ (List.mem_cons_of_mem _ List.mem_cons_self))))
theorem ay_69_ok : ab_chk ay_W 4000 true true ay_69 = true := gr_99b_02_3 _ (List.mem_cons_of_mem _ (List.mem_cons_of_mem _ (List.mem_cons_of_mem _ (List.mem_cons_of_mem _ (List.mem_cons_of_mem _ List.mem_cons_self)))))

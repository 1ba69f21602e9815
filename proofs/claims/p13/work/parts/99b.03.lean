/-! The meeting points hold, 3 -/
theorem gr_99b_03_0 : ∀ t ∈ ([ay_70, ay_71, ay_72, ay_73, ay_74, ay_75] : List ab_Tm), ab_chk ay_W 4000 true true t = true := bh_cks (af_hy_ok rfl) (by decide +kernel)
theorem ay_70_ok : ab_chk ay_W 4000 true true ay_70 = true := gr_99b_03_0 _ List.mem_cons_self
theorem ay_71_ok : ab_chk ay_W 4000 true true ay_71 = true := gr_99b_03_0 _ (List.mem_cons_of_mem _ List.mem_cons_self)
theorem ay_72_ok : ab_chk ay_W 4000 true true ay_72 = true := gr_99b_03_0 _ (List.mem_cons_of_mem _ (List.mem_cons_of_mem _ List.mem_cons_self))
theorem ay_73_ok : ab_chk ay_W 4000 true true ay_73 = true := gr_99b_03_0 _ (List.mem_cons_of_mem _ (List.mem_cons_of_mem _ (List.mem_cons_of_mem _ List.mem_cons_self)))
theorem ay_74_ok : ab_chk ay_W 4000 true true ay_74 = true := gr_99b_03_0 _ (List.mem_cons_of_mem _ (List.mem_cons_of_mem _ (List.mem_cons_of_mem _ (List.mem_cons_of_mem _ List.mem_cons_self))))
theorem ay_75_ok : ab_chk ay_W 4000 true true ay_75 = true := gr_99b_03_0 _ (List.mem_cons_of_mem _ (List.mem_cons_of_mem _ (List.mem_cons_of_mem _ (List.mem_cons_of_mem _ (List.mem_cons_of_mem _ List.mem_cons_self)))))
theorem gr_99b_03_1 : ∀ t ∈ ([ay_76, ay_77, ay_78, ay_79, ay_80, ay_81] : List ab_Tm), ab_chk ay_W 4000 true true t = true := bh_cks (af_hy_ok rfl) (by decide +kernel)
theorem ay_76_ok : ab_chk ay_W 4000 true true ay_76 = true := gr_99b_03_1 _ List.mem_cons_self
theorem ay_77_ok : ab_chk ay_W 4000 true true ay_77 = true := gr_99b_03_1 _ (List.mem_cons_of_mem _ List.mem_cons_self)
theorem ay_78_ok : ab_chk ay_W 4000 true true ay_78 = true := gr_99b_03_1 _ (List.mem_cons_of_mem _ (List.mem_cons_of_mem _ List.mem_cons_self))
theorem ay_79_ok : ab_chk ay_W 4000 true true ay_79 = true := gr_99b_03_1 _ (List.mem_cons_of_mem _ (List.mem_cons_of_mem _ (List.mem_cons_of_mem _ List.mem_cons_self)))
theorem ay_80_ok : ab_chk ay_W 4000 true true ay_80 = true := gr_99b_03_1 _ (List.mem_cons_of_mem _ (List.mem_cons_of_mem _ (List.mem_cons_of_mem _ (List.mem_cons_of_mem _ List.mem_cons_self))))
theorem ay_81_ok : ab_chk ay_W 4000 true true ay_81 = true := gr_99b_03_1 _ (List.mem_cons_of_mem _ (List.mem_cons_of_mem _ (List.mem_cons_of_mem _ (List.mem_cons_of_mem _ (List.mem_cons_of_mem _ List.mem_cons_self)))))
theorem gr_99b_03_2 : ∀ t ∈ ([ay_82, ay_83, ay_84, ay_85, ay_86, ay_87] : List ab_Tm), ab_chk ay_W 4000 true true t = true := bh_cks (af_hy_ok rfl) (by decide +kernel)
theorem ay_82_ok : ab_chk ay_W 4000 true true ay_82 = true := gr_99b_03_2 _ List.mem_cons_self
theorem ay_83_ok : ab_chk ay_W 4000 true true ay_83 = true := gr_99b_03_2 _ (List.mem_cons_of_mem _ List.mem_cons_self)
theorem ay_84_ok : ab_chk ay_W 4000 true true ay_84 = true := gr_99b_03_2 _ (List.mem_cons_of_mem _ (List.mem_cons_of_mem _ List.mem_cons_self))
theorem ay_85_ok : ab_chk ay_W 4000 true true ay_85 = true := gr_99b_03_2 _ (List.mem_cons_of_mem _ (List.mem_cons_of_mem _ (List.mem_cons_of_mem _ List.mem_cons_self)))
theorem ay_86_ok : ab_chk ay_W 4000 true true ay_86 = true := gr_99b_03_2 _ (List.mem_cons_of_mem _ (List.mem_cons_of_mem _ (List.mem_cons_of_mem _ (List.mem_cons_of_mem _ List.mem_cons_self))))
theorem ay_87_ok : ab_chk ay_W 4000 true true ay_87 = true := gr_99b_03_2 _ (List.mem_cons_of_mem _ (List.mem_cons_of_mem _ (List.mem_cons_of_mem _ (List.mem_cons_of_mem _ (List.mem_cons_of_mem _ List.mem_cons_self)))))
theorem gr_99b_03_3 : ∀ t ∈ ([ay_88, ay_89, ay_90] : List ab_Tm), ab_chk ay_W 4000 true true t = true := bh_cks (af_hy_ok rfl) (by decide +kernel)
theorem ay_88_ok : ab_chk ay_W 4000 true true ay_88 = true := gr_99b_03_3 _ List.mem_cons_self
theorem ay_89_ok : ab_chk ay_W 4000 true true ay_89 = true := gr_99b_03_3 _ (List.mem_cons_of_mem _ List.mem_cons_self)
theorem ay_90_ok : ab_chk ay_W 4000 true true ay_90 = true := gr_99b_03_3 _ (List.mem_cons_of_mem _ (List.mem_cons_of_mem _ List.mem_cons_self))

/-! The meeting points hold, 13 -/
theorem gr_99b_13_0 : ∀ t ∈ ([ay_259, ay_260, ay_261, ay_262, ay_263, ay_264, ay_265, ay_266] : List ab_Tm), ab_chk ay_W 4000 false true t = true := bh_cks (af_hy_ok rfl) (by decide +kernel)
theorem ay_259_ok : ab_chk ay_W 4000 false true ay_259 = true := gr_99b_13_0 _ List.mem_cons_self
theorem ay_260_ok : ab_chk ay_W 4000 false true ay_260 = true := gr_99b_13_0 _ (List.mem_cons_of_mem _ List.mem_cons_self)
theorem ay_261_ok : ab_chk ay_W 4000 false true ay_261 = true := gr_99b_13_0 _ (List.mem_cons_of_mem _ (List.mem_cons_of_mem _ List.mem_cons_self))
theorem ay_262_ok : ab_chk ay_W 4000 false true ay_262 = true := gr_99b_13_0 _ (List.mem_cons_of_mem _ (List.mem_cons_of_mem _ (List.mem_cons_of_mem _ List.mem_cons_self)))
theorem ay_263_ok : ab_chk ay_W 4000 false true ay_263 = true := gr_99b_13_0 _ (List.mem_cons_of_mem _ (List.mem_cons_of_mem _ (List.mem_cons_of_mem _ (List.mem_cons_of_mem _ List.mem_cons_self))))
theorem ay_264_ok : ab_chk ay_W 4000 false true ay_264 = true := gr_99b_13_0 _ (List.mem_cons_of_mem _ (List.mem_cons_of_mem _ (List.mem_cons_of_mem _ (List.mem_cons_of_mem _ (List.mem_cons_of_mem _ List.mem_cons_self)))))
theorem ay_265_ok : ab_chk ay_W 4000 false true ay_265 = true := gr_99b_13_0 _ (List.mem_cons_of_mem _ (List.mem_cons_of_mem _ (List.mem_cons_of_mem _ (List.mem_cons_of_mem _ (List.mem_cons_of_mem _ (List.mem_cons_of_mem _ List.mem_cons_self))))))
theorem ay_266_ok : ab_chk ay_W 4000 false true ay_266 = true := gr_99b_13_0 _ (List.mem_cons_of_mem _ (List.mem_cons_of_mem _ (List.mem_cons_of_mem _ (List.mem_cons_of_mem _ (List.mem_cons_of_mem _ (List.mem_cons_of_mem _ (List.mem_cons_of_mem _ List.mem_cons_self)))))))
theorem gr_99b_13_1 : ∀ t ∈ ([ay_267, ay_268, ay_269, ay_270, ay_271, ay_272, ay_273] : List ab_Tm), ab_chk ay_W 4000 false true t = true := bh_cks (af_hy_ok rfl) (by decide +kernel)
theorem ay_267_ok : ab_chk ay_W 4000 false true ay_267 = true := gr_99b_13_1 _ List.mem_cons_self
theorem ay_268_ok : ab_chk ay_W 4000 false true ay_268 = true := gr_99b_13_1 _ (List.mem_cons_of_mem _ List.mem_cons_self)
theorem ay_269_ok : ab_chk ay_W 4000 false true ay_269 = true := gr_99b_13_1 _ (List.mem_cons_of_mem _ (List.mem_cons_of_mem _ List.mem_cons_self))
theorem ay_270_ok : ab_chk ay_W 4000 false true ay_270 = true := gr_99b_13_1 _ (List.mem_cons_of_mem _ (List.mem_cons_of_mem _ (List.mem_cons_of_mem _ List.mem_cons_self)))
theorem ay_271_ok : ab_chk ay_W 4000 false true ay_271 = true := gr_99b_13_1 _ (List.mem_cons_of_mem _ (List.mem_cons_of_mem _ (List.mem_cons_of_mem _ (List.mem_cons_of_mem _ List.mem_cons_self))))
theorem ay_272_ok : ab_chk ay_W 4000 false true ay_272 = true := gr_99b_13_1 _ (List.mem_cons_of_mem _ (List.mem_cons_of_mem _ (List.mem_cons_of_mem _ (List.mem_cons_of_mem _ (List.mem_cons_of_mem _ List.mem_cons_self)))))
theorem ay_273_ok : ab_chk ay_W 4000 false true ay_273 = true := gr_99b_13_1 _ (List.mem_cons_of_mem _ (List.mem_cons_of_mem _ (List.mem_cons_of_mem _ (List.mem_cons_of_mem _ (List.mem_cons_of_mem _ (List.mem_cons_of_mem _ List.mem_cons_self))))))

/-! Contracts 357 to 369 -/
/-! LastLayerModel.readStep: 2920 steps -/
/-! LastLayerModel.days: 212 steps -/
/-! LastLayerModel.tails: 508 steps -/
noncomputable def aec_359 : ae_Ct := (272, [(2, 219, 0, 0)], some (0, (-2147483648), 2147483647), [], [], [[]], false, 0)
theorem aet_359 : ae_CT aec_359 := ae_con_ok ae_rok_ok ae_fok_ok (fuel := 100000) (cts := []) (mcs := []) (cus := []) (sps := []) (af_kc (by decide +kernel)) (fun _ q => absurd q List.not_mem_nil) (fun _ q => absurd q List.not_mem_nil)
/-! LastLayerModel.many: 100 steps -/
/-! LastLayerModel.ratsOf: 42 steps -/
noncomputable def aec_361 : ae_Ct := (271, [(2, 219, 0, 0), (0, 0, 0, 3)], some (0, (-2147483648), 2147483647), [], [], [[]], false, 1)
theorem aet_361 : ae_CT aec_361 := ae_con_ok ae_rok_ok ae_fok_ok (fuel := 100000) (cts := []) (mcs := []) (cus := [(271, 4, ([0, 1], [(0, 2, 0, 0, false, (-2147483648), 2147483647, (-2147483648), 2147483647), (0, 3, 0, 0, false, 0, 8, 0, 8)], [], [], 1, true))]) (sps := []) (af_kc (by decide +kernel)) (fun _ q => absurd q List.not_mem_nil) (fun _ q => absurd q List.not_mem_nil)
/-! LastLayerModel.rick: 136 steps -/
/-! LastLayerModel.layer: 132 steps -/
/-! LastLayerModel.side: 132 steps -/
/-! LastLayerModel.dog: 112 steps -/
/-! LastLayerModel.boy: 112 steps -/
/-! LastLayerModel.netted: 11 steps -/
/-! LastLayerModel.pay: 14 steps -/
noncomputable def aec_368 : ae_Ct := (281, [(2, 219, 0, 0)], some (0, (-2147483648), 2147483647), [(219, 0, 1)], [], [[]], false, 1)
theorem aet_368 : ae_CT aec_368 := ae_con_ok ae_rok_ok ae_fok_ok (fuel := 100000) (cts := [aec_359]) (mcs := []) (cus := []) (sps := []) (af_kc (by decide +kernel)) (ae_ctc aet_359 (fun _ q => absurd q List.not_mem_nil)) (fun _ q => absurd q List.not_mem_nil)
/-! LastLayerModel.share from 10: 186 steps -/
noncomputable def aec_369 : ae_Ct := (282, [(2, 219, 0, 0)], some (0, 0, 1), [(219, 0, 0), (219, 2, 3)], [(224, 2), (224, 3)], [[(false, 0, 0, 4), (false, 0, 0, 4)]], false, 2)
theorem aet_369 : ae_CS 10 [(0, 0), (0, 0)] aec_369 := ae_suf_ok ae_rok_ok ae_fok_ok (fuel := 100000) (cts := ae_frac1 :: ae_frac2 :: []) (mcs := []) (cus := []) (sps := [(282, 5, 1, 224, 2), (282, 5, 1, 224, 3)]) (sfs := []) (af_kc (by decide +kernel)) (ae_ctc ae_fract1 (ae_ctc ae_fract2 (fun _ q => absurd q List.not_mem_nil))) (fun _ q => absurd q List.not_mem_nil) (fun _ q => absurd q List.not_mem_nil)

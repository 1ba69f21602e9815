/-! Contracts 357 to 369 -/
/-! LastLayerModel.readStep: 2920 steps -/
noncomputable def aec_357 : ae_Ct := (264, [(2, 219, 0, 0), (0, 0, 0, 0)], none, [(219, 12, 19), (219, 25, 25), (224, 1651, 1920)], [(219, 25), (219, 12)], [[(true, 0, 0, 30), (false, 0, 1, 7)], [(true, 1, 0, 30), (true, 0, 0, 0)]], false, 10)
theorem aet_357 : ae_CT aec_357 := ae_con_oks ae_rok_ok ae_fok_ok (fuel := 100000) (cts := [aec_276, aec_289, aec_296, aec_299, aec_340, aec_341, aec_344]) (mcs := []) (cus := []) (sps := []) (sfs := [(132, [], aec_342), (91, [(0, 29), (0, 0)], aec_343), (91, [(0, 29), (0, 0)], aec_355), (91, [(0, 29), (0, 0)], aec_356)]) (af_kc (by decide +kernel)) (ae_ctc aet_276 (ae_ctc aet_289 (ae_ctc aet_296 (ae_ctc aet_299 (ae_ctc aet_340 (ae_ctc aet_341 (ae_ctc aet_344 (fun _ q => absurd q List.not_mem_nil)))))))) (fun _ q => absurd q List.not_mem_nil) (ae_sfc aet_342 (ae_sfc aet_343 (ae_sfc aet_355 (ae_sfc aet_356 (fun _ q => absurd q List.not_mem_nil)))))
/-! LastLayerModel.days: 212 steps -/
noncomputable def aec_358 : ae_Ct := (265, [(2, 219, 0, 0), (0, 0, (-2147483648), 2147483647)], some (0, (-1), 59), [(219, 0, 1), (219, 8, 19), (219, 25, 25), (224, 109, 380), (224, 1651, 1920)], [], [[]], false, 11)
theorem aet_358 : ae_CT aec_358 := ae_con_ok ae_rok_ok ae_fok_ok (fuel := 100000) (cts := [aec_276, aec_357]) (mcs := [aem_20]) (cus := [(265, 42, ([0, 1], [(1, 219, 12, 0, false, 0, 7, 0, 7), (1, 219, 13, 0, false, (-2147483648), 2147483647, (-2147483648), 2147483647), (1, 219, 14, 0, false, 0, 4, 0, 4), (1, 219, 15, 0, false, 0, 900, 0, 900), (1, 219, 16, 0, false, 0, 900, 0, 900), (1, 219, 17, 0, false, (-2147483648), 2147483647, (-2147483648), 2147483647), (1, 219, 18, 0, false, (-2147483648), 2147483647, (-2147483648), 2147483647), (1, 219, 25, 0, false, 0, 30, 0, 30)], [(219, 12, 19), (219, 25, 25), (224, 1651, 1920)], [], 7, true))]) (sps := []) (af_kc (by decide +kernel)) (ae_ctc aet_276 (ae_ctc aet_357 (fun _ q => absurd q List.not_mem_nil))) (ae_mmc aemt_20 (fun _ q => absurd q List.not_mem_nil))
/-! LastLayerModel.tails: 508 steps -/
noncomputable def aec_359 : ae_Ct := (272, [(2, 219, 0, 0)], some (0, (-2147483648), 2147483647), [], [], [[]], false, 0)
theorem aet_359 : ae_CT aec_359 := ae_con_ok ae_rok_ok ae_fok_ok (fuel := 100000) (cts := []) (mcs := []) (cus := []) (sps := []) (af_kc (by decide +kernel)) (fun _ q => absurd q List.not_mem_nil) (fun _ q => absurd q List.not_mem_nil)
/-! LastLayerModel.many: 100 steps -/
noncomputable def aec_360 : ae_Ct := (274, [(2, 219, 0, 0), (0, 0, (-2147483648), 2147483647)], some (0, (-2147483648), 2147483647), [(219, 0, 1)], [], [[]], false, 2)
theorem aet_360 : ae_CT aec_360 := ae_con_ok ae_rok_ok ae_fok_ok (fuel := 100000) (cts := [aec_359]) (mcs := []) (cus := []) (sps := []) (af_kc (by decide +kernel)) (ae_ctc aet_359 (fun _ q => absurd q List.not_mem_nil)) (fun _ q => absurd q List.not_mem_nil)
/-! LastLayerModel.ratsOf: 42 steps -/
noncomputable def aec_361 : ae_Ct := (271, [(2, 219, 0, 0), (0, 0, 0, 3)], some (0, (-2147483648), 2147483647), [], [], [[]], false, 1)
theorem aet_361 : ae_CT aec_361 := ae_con_ok ae_rok_ok ae_fok_ok (fuel := 100000) (cts := []) (mcs := []) (cus := [(271, 4, ([0, 1], [(0, 2, 0, 0, false, (-2147483648), 2147483647, (-2147483648), 2147483647), (0, 3, 0, 0, false, 0, 8, 0, 8)], [], [], 1, true))]) (sps := []) (af_kc (by decide +kernel)) (fun _ q => absurd q List.not_mem_nil) (fun _ q => absurd q List.not_mem_nil)
/-! LastLayerModel.rick: 136 steps -/
noncomputable def aec_362 : ae_Ct := (275, [(2, 219, 0, 0), (0, 0, (-2147483648), 2147483647), (0, 0, (-2147483648), 2147483647)], some (0, (-2147483648), 2147483647), [(219, 0, 1)], [], [[]], false, 2)
theorem aet_362 : ae_CT aec_362 := ae_con_ok ae_rok_ok ae_fok_ok (fuel := 100000) (cts := [aec_361]) (mcs := []) (cus := []) (sps := []) (af_kc (by decide +kernel)) (ae_ctc aet_361 (fun _ q => absurd q List.not_mem_nil)) (fun _ q => absurd q List.not_mem_nil)
/-! LastLayerModel.layer: 132 steps -/
noncomputable def aec_363 : ae_Ct := (276, [(2, 219, 0, 0), (0, 0, (-2147483648), 2147483647), (0, 0, (-2147483648), 2147483647)], some (0, (-2147483648), 2147483647), [(219, 0, 1)], [], [[]], false, 2)
theorem aet_363 : ae_CT aec_363 := ae_con_ok ae_rok_ok ae_fok_ok (fuel := 100000) (cts := []) (mcs := []) (cus := []) (sps := []) (af_kc (by decide +kernel)) (fun _ q => absurd q List.not_mem_nil) (fun _ q => absurd q List.not_mem_nil)
/-! LastLayerModel.side: 132 steps -/
noncomputable def aec_364 : ae_Ct := (277, [(2, 219, 0, 0), (0, 0, (-2147483648), 2147483647), (0, 0, (-2147483648), 2147483647)], some (0, (-2147483648), 2147483647), [(219, 0, 1)], [], [[]], false, 2)
theorem aet_364 : ae_CT aec_364 := ae_con_ok ae_rok_ok ae_fok_ok (fuel := 100000) (cts := []) (mcs := []) (cus := []) (sps := []) (af_kc (by decide +kernel)) (fun _ q => absurd q List.not_mem_nil) (fun _ q => absurd q List.not_mem_nil)
/-! LastLayerModel.dog: 112 steps -/
noncomputable def aec_365 : ae_Ct := (278, [(2, 219, 0, 0), (0, 0, (-2147483648), 2147483647), (0, 0, (-2147483648), 2147483647)], some (0, (-2147483648), 2147483647), [(219, 0, 1)], [], [[]], false, 2)
theorem aet_365 : ae_CT aec_365 := ae_con_ok ae_rok_ok ae_fok_ok (fuel := 100000) (cts := []) (mcs := []) (cus := []) (sps := []) (af_kc (by decide +kernel)) (fun _ q => absurd q List.not_mem_nil) (fun _ q => absurd q List.not_mem_nil)
/-! LastLayerModel.boy: 112 steps -/
noncomputable def aec_366 : ae_Ct := (279, [(2, 219, 0, 0), (0, 0, (-2147483648), 2147483647), (0, 0, (-2147483648), 2147483647)], some (0, (-2147483648), 2147483647), [(219, 0, 1)], [], [[]], false, 2)
theorem aet_366 : ae_CT aec_366 := ae_con_ok ae_rok_ok ae_fok_ok (fuel := 100000) (cts := []) (mcs := []) (cus := []) (sps := []) (af_kc (by decide +kernel)) (fun _ q => absurd q List.not_mem_nil) (fun _ q => absurd q List.not_mem_nil)
/-! LastLayerModel.netted: 11 steps -/
noncomputable def aec_367 : ae_Ct := (280, [(2, 219, 0, 0)], some (0, (-2147483648), 2147483647), [(219, 0, 1)], [], [[]], false, 0)
theorem aet_367 : ae_CT aec_367 := ae_con_ok ae_rok_ok ae_fok_ok (fuel := 100000) (cts := []) (mcs := []) (cus := []) (sps := []) (af_kc (by decide +kernel)) (fun _ q => absurd q List.not_mem_nil) (fun _ q => absurd q List.not_mem_nil)
/-! LastLayerModel.pay: 14 steps -/
noncomputable def aec_368 : ae_Ct := (281, [(2, 219, 0, 0)], some (0, (-2147483648), 2147483647), [(219, 0, 1)], [], [[]], false, 1)
theorem aet_368 : ae_CT aec_368 := ae_con_ok ae_rok_ok ae_fok_ok (fuel := 100000) (cts := [aec_359]) (mcs := []) (cus := []) (sps := []) (af_kc (by decide +kernel)) (ae_ctc aet_359 (fun _ q => absurd q List.not_mem_nil)) (fun _ q => absurd q List.not_mem_nil)
/-! LastLayerModel.share from 10: 186 steps -/
noncomputable def aec_369 : ae_Ct := (282, [(2, 219, 0, 0)], some (0, 0, 1), [(219, 0, 0), (219, 2, 3)], [(224, 2), (224, 3)], [[(false, 0, 0, 4), (false, 0, 0, 4)]], false, 2)
theorem aet_369 : ae_CS 10 [(0, 0), (0, 0)] aec_369 := ae_suf_ok ae_rok_ok ae_fok_ok (fuel := 100000) (cts := ae_frac1 :: ae_frac2 :: []) (mcs := []) (cus := []) (sps := [(282, 5, 1, 224, 2), (282, 5, 1, 224, 3)]) (sfs := []) (af_kc (by decide +kernel)) (ae_ctc ae_fract1 (ae_ctc ae_fract2 (fun _ q => absurd q List.not_mem_nil))) (fun _ q => absurd q List.not_mem_nil) (fun _ q => absurd q List.not_mem_nil)

/-! Contracts 337 to 345 -/
/-! LastLayerModel.readTest from 121: 22 steps -/
noncomputable def aec_337 : ae_Ct := (262, [(2, 219, 0, 0), (9, 1651, 0, 29)], none, [(224, 1653, 1914)], [(219, 12)], [[(false, 0, 1, 7)]], false, 1)
theorem aet_337 : ae_CS 121 [(1, 7)] aec_337 := ae_suf_ok ae_rok_ok ae_fok_ok (fuel := 100000) (cts := []) (mcs := []) (cus := []) (sps := []) (sfs := []) (af_kc (by decide +kernel)) (fun _ q => absurd q List.not_mem_nil) (fun _ q => absurd q List.not_mem_nil) (fun _ q => absurd q List.not_mem_nil)
/-! LastLayerModel.readTest from 121: 195 steps -/
noncomputable def aec_338 : ae_Ct := (262, [(2, 219, 0, 0), (9, 1651, 0, 29)], none, [(219, 12, 19), (224, 1653, 1914)], [(219, 12)], [[(false, 0, 1, 7)], [(false, 0, 0, 0)]], false, 3)
theorem aet_338 : ae_CS 121 [(0, 0)] aec_338 := ae_suf_ok ae_rok_ok ae_fok_ok (fuel := 100000) (cts := [aec_276]) (mcs := []) (cus := []) (sps := []) (sfs := []) (af_kc (by decide +kernel)) (ae_ctc aet_276 (fun _ q => absurd q List.not_mem_nil)) (fun _ q => absurd q List.not_mem_nil) (fun _ q => absurd q List.not_mem_nil)
/-! LastLayerModel.readTest from 60: 352 steps -/
noncomputable def aec_339 : ae_Ct := (262, [(2, 219, 0, 0), (9, 1651, 0, 29)], none, [(219, 12, 19), (224, 1653, 1919)], [(219, 12)], [[(false, 0, 1, 7)], [(false, 0, 0, 0)]], false, 3)
theorem aet_339 : ae_CS 60 [(0, 0)] aec_339 := ae_suf_ok ae_rok_ok ae_fok_ok (fuel := 100000) (cts := [aec_276]) (mcs := []) (cus := []) (sps := []) (sfs := [(121, [(1, 7)], aec_337), (121, [(0, 0)], aec_338)]) (af_kc (by decide +kernel)) (ae_ctc aet_276 (fun _ q => absurd q List.not_mem_nil)) (fun _ q => absurd q List.not_mem_nil) (ae_sfc aet_337 (ae_sfc aet_338 (fun _ q => absurd q List.not_mem_nil)))
/-! LastLayerModel.named: 38 steps -/
noncomputable def aec_340 : ae_Ct := (253, [(2, 219, 0, 0), (0, 0, 0, 0), (0, 0, 2, 2)], some (0, (-1), 3), [], [], [[]], true, 0)
theorem aet_340 : ae_CT aec_340 := ae_con_ok ae_rok_ok ae_fok_ok (fuel := 100000) (cts := []) (mcs := []) (cus := [(253, 2, ([0, 1, 2], [(0, 3, 0, 0, false, 0, 4, 0, 4)], [], [], 0, true))]) (sps := []) (af_kc (by decide +kernel)) (fun _ q => absurd q List.not_mem_nil) (fun _ q => absurd q List.not_mem_nil)
/-! LastLayerModel.named: 38 steps -/
noncomputable def aec_341 : ae_Ct := (253, [(2, 219, 0, 0), (0, 0, 0, 0), (0, 0, 0, 0)], some (0, (-1), 3), [], [], [[]], true, 0)
theorem aet_341 : ae_CT aec_341 := ae_con_ok ae_rok_ok ae_fok_ok (fuel := 100000) (cts := []) (mcs := []) (cus := [(253, 2, ([0, 1, 2], [(0, 3, 0, 0, false, 0, 4, 0, 4)], [], [], 0, true))]) (sps := []) (af_kc (by decide +kernel)) (fun _ q => absurd q List.not_mem_nil) (fun _ q => absurd q List.not_mem_nil)
/-! LastLayerModel.readStep from 132: 300 steps -/
noncomputable def aec_342 : ae_Ct := (264, [(2, 219, 0, 0), (0, 0, (-2147483648), 2147483647), (0, 0, (-2147483648), 2147483647), (0, 0, 0, 0), (9, 1651, 0, 29)], none, [(219, 12, 19), (224, 1659, 1920)], [(219, 25), (219, 12)], [[(true, 0, 0, 30), (false, 0, 1, 7)], [(true, 0, 0, 30), (true, 0, 0, 0)]], false, 3)
theorem aet_342 : ae_CS 132 [] aec_342 := ae_suf_ok ae_rok_ok ae_fok_ok (fuel := 100000) (cts := [aec_276]) (mcs := []) (cus := []) (sps := []) (sfs := []) (af_kc (by decide +kernel)) (ae_ctc aet_276 (fun _ q => absurd q List.not_mem_nil)) (fun _ q => absurd q List.not_mem_nil) (fun _ q => absurd q List.not_mem_nil)
/-! LastLayerModel.readStep from 91: 91 steps -/
noncomputable def aec_343 : ae_Ct := (264, [(2, 219, 0, 0), (0, 0, (-2147483648), 2147483647), (0, 0, 10, 10), (0, 0, 0, 0)], none, [(219, 12, 19), (219, 25, 25), (224, 1651, 1920)], [(219, 25), (219, 12)], [[(true, 0, 0, 30), (false, 0, 1, 7)], [(true, 1, 0, 30), (true, 0, 0, 0)]], false, 3)
theorem aet_343 : ae_CS 91 [(0, 29), (0, 0)] aec_343 := ae_suf_ok ae_rok_ok ae_fok_ok (fuel := 100000) (cts := [aec_276]) (mcs := []) (cus := []) (sps := []) (sfs := [(132, [], aec_342)]) (af_kc (by decide +kernel)) (ae_ctc aet_276 (fun _ q => absurd q List.not_mem_nil)) (fun _ q => absurd q List.not_mem_nil) (ae_sfc aet_342 (fun _ q => absurd q List.not_mem_nil))
/-! LastLayerModel.named: 38 steps -/
noncomputable def aec_344 : ae_Ct := (253, [(2, 219, 0, 0), (0, 0, 0, 0), (0, 0, 1, 1)], some (0, (-1), 3), [], [], [[]], true, 0)
theorem aet_344 : ae_CT aec_344 := ae_con_ok ae_rok_ok ae_fok_ok (fuel := 100000) (cts := []) (mcs := []) (cus := [(253, 2, ([0, 1, 2], [(0, 3, 0, 0, false, 0, 4, 0, 4)], [], [], 0, true))]) (sps := []) (af_kc (by decide +kernel)) (fun _ q => absurd q List.not_mem_nil) (fun _ q => absurd q List.not_mem_nil)
/-! LastLayerModel.readStep: 2950 steps -/
noncomputable def aec_345 : ae_Ct := (264, [(2, 219, 0, 0), (0, 0, 3, 3)], none, [(219, 12, 19), (219, 25, 25), (224, 1651, 1920)], [(219, 25), (219, 12)], [[(true, 0, 0, 30), (false, 0, 1, 7)], [(true, 1, 0, 30), (true, 0, 0, 0)]], false, 7)
theorem aet_345 : ae_CT aec_345 := ae_con_oks ae_rok_ok ae_fok_ok (fuel := 100000) (cts := [aec_276, aec_289, aec_296, aec_299, aec_340, aec_341, aec_344]) (mcs := []) (cus := []) (sps := []) (sfs := [(132, [], aec_342), (91, [(0, 29), (0, 0)], aec_343)]) (af_kc (by decide +kernel)) (ae_ctc aet_276 (ae_ctc aet_289 (ae_ctc aet_296 (ae_ctc aet_299 (ae_ctc aet_340 (ae_ctc aet_341 (ae_ctc aet_344 (fun _ q => absurd q List.not_mem_nil)))))))) (fun _ q => absurd q List.not_mem_nil) (ae_sfc aet_342 (ae_sfc aet_343 (fun _ q => absurd q List.not_mem_nil)))

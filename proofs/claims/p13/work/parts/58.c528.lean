/-! Contracts 528 to 539 -/
/-! LastLayerModel.doAll: 2990 steps -/
noncomputable def aec_528 : ae_Ct := (345, [(2, 219, 0, 0), (0, 0, 0, 30), (0, 0, 0, 30)], none, [(219, 42, 47), (224, 8, 11), (224, 17, 24), (224, 29, 68), (224, 73, 80), (224, 89, 96), (224, 105, 108), (227, 0, 3)], [(219, 44)], [[(true, 0, 0, 300)]], false, 608)
theorem aet_528 : ae_CT aec_528 := ae_con_rec (K := 300) (lo := 0) (dep := 8) ae_rok_ok ae_fok_ok (fuel := 100000) (cts := [aec_361, aec_418, aec_526, aec_527]) (mcs := []) (cus := [(345, 14, ([0, 1, 2], [(0, 3, 0, 0, false, 0, 29, 0, 29), (1, 219, 44, 0, true, 0, 300, 0, 300)], [(219, 42, 47), (224, 8, 11), (224, 17, 24), (224, 29, 68), (224, 73, 80), (224, 89, 96), (224, 105, 108), (227, 0, 3)], [], 1, true)), (344, 119, ([0, 1, 2, 3], [(0, 4, 0, 0, false, 0, 99, 0, 99), (1, 219, 44, 0, true, 0, 300, 0, 300)], [(219, 42, 47), (224, 8, 11), (224, 17, 24), (224, 29, 68), (224, 73, 80), (224, 89, 96), (224, 105, 108), (227, 0, 3)], [], 0, true))]) (sps := []) (by decide +kernel) (by decide +kernel) (ae_ctc aet_361 (ae_ctc aet_418 (ae_ctc aet_526 (ae_ctc aet_527 (fun _ q => absurd q List.not_mem_nil))))) (fun _ q => absurd q List.not_mem_nil)
/-! LastLayerModel.live: 251 steps -/
/-! LastLayerModel.lived: 65 steps -/
noncomputable def aec_530 : ae_Ct := (348, [(2, 219, 0, 0), (0, 0, (-2147483648), 2147483647)], some (0, (-2147483648), 2147483647), [(219, 0, 1)], [], [[]], false, 1)
theorem aet_530 : ae_CT aec_530 := ae_con_ok ae_rok_ok ae_fok_ok (fuel := 100000) (cts := []) (mcs := []) (cus := []) (sps := []) (af_kc (by decide +kernel)) (fun _ q => absurd q List.not_mem_nil) (fun _ q => absurd q List.not_mem_nil)
/-! LastLayerModel.mean: 265 steps -/
noncomputable def aec_531 : ae_Ct := (349, [(2, 219, 0, 0), (0, 0, (-2147483648), 2147483647), (0, 0, (-2147483648), 2147483647)], some (0, 0, 1), [(219, 0, 3), (219, 42, 47), (224, 0, 108), (227, 0, 3), (234, 0, 108)], [], [[]], false, 610)
theorem aet_531 : ae_CT aec_531 := ae_con_ok ae_rok_ok ae_fok_ok (fuel := 100000) (cts := ae_frac1 :: ae_frac2 :: [aec_359, aec_528]) (mcs := [aem_3, aem_4]) (cus := [(349, 97, ([0, 1, 2, 5], [(0, 3, 0, 1, false, (-9223372036854775808), 9223372036854775807, (-9223372036854775808), 9223372036854775807), (0, 6, 0, 0, false, 0, 20, 0, 20)], [(219, 42, 47), (224, 0, 108), (227, 0, 3)], [], 1, true))]) (sps := []) (af_kc (by decide +kernel)) (ae_ctc ae_fract1 (ae_ctc ae_fract2 (ae_ctc aet_359 (ae_ctc aet_528 (fun _ q => absurd q List.not_mem_nil))))) (ae_mmc aemt_3 (ae_mmc aemt_4 (fun _ q => absurd q List.not_mem_nil)))
/-! LastLayerModel.copy: 28 steps -/
/-! LastLayerModel.copy: 28 steps -/
/-! LastLayerModel.copy: 28 steps -/
/-! LastLayerModel.mark: 42 steps -/
/-! LastLayerModel.copy: 28 steps -/
/-! LastLayerModel.copy: 28 steps -/
/-! LastLayerModel.copy: 28 steps -/
/-! LastLayerModel.back: 53 steps -/

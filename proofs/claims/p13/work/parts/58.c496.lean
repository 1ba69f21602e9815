/-! Contracts 496 to 527 -/
/-! LastLayerModel.runsSo: 89 steps -/
/-! LastLayerModel.runsSo: 89 steps -/
/-! LastLayerModel.runsSo: 89 steps -/
/-! LastLayerModel.runsSo: 89 steps -/
/-! LastLayerModel.runsSo: 89 steps -/
/-! LastLayerModel.runsSo: 89 steps -/
/-! LastLayerModel.runsSo: 89 steps -/
/-! LastLayerModel.runsSo: 89 steps -/
/-! LastLayerModel.runsSo: 89 steps -/
/-! LastLayerModel.runsSo: 89 steps -/
/-! LastLayerModel.runsSo: 89 steps -/
/-! LastLayerModel.runsSo: 89 steps -/
/-! LastLayerModel.runsSo: 89 steps -/
/-! LastLayerModel.runsSo: 89 steps -/
/-! LastLayerModel.runsSo: 89 steps -/
/-! LastLayerModel.runsSo: 89 steps -/
/-! LastLayerModel.runsSo: 89 steps -/
/-! LastLayerModel.runsSo: 89 steps -/
/-! LastLayerModel.runsSo: 89 steps -/
/-! LastLayerModel.runsSo: 89 steps -/
/-! LastLayerModel.runsSo: 89 steps -/
/-! LastLayerModel.runsSo: 89 steps -/
/-! LastLayerModel.runsSo: 89 steps -/
/-! LastLayerModel.runsSo: 89 steps -/
/-! LastLayerModel.runsSo: 89 steps -/
/-! LastLayerModel.runsSo: 89 steps -/
/-! LastLayerModel.runsSo: 89 steps -/
/-! LastLayerModel.runsSo: 89 steps -/
/-! LastLayerModel.runsSo: 89 steps -/
noncomputable def aec_524 : ae_Ct := (337, [(2, 219, 0, 0), (0, 0, 0, 3), (0, 0, 0, 3), (0, 0, 1, 7), (0, 0, 0, 99)], some (0, 0, 1), [], [], [[]], false, 1)
theorem aet_524 : ae_CT aec_524 := ae_con_ok ae_rok_ok ae_fok_ok (fuel := 100000) (cts := []) (mcs := []) (cus := [(337, 16, ([0, 1, 2, 3, 4], [(0, 5, 0, 0, false, (-2147483648), 2147483647, (-2147483648), 2147483647), (0, 6, 0, 0, false, 0, 7, 0, 7)], [], [], 1, true))]) (sps := []) (af_kc (by decide +kernel)) (fun _ q => absurd q List.not_mem_nil) (fun _ q => absurd q List.not_mem_nil)
/-! LastLayerModel.tells: 351 steps -/
noncomputable def aec_525 : ae_Ct := (338, [(2, 219, 0, 0), (0, 0, (-2147483648), 2147483647), (0, 0, (-2147483648), 2147483647), (0, 0, (-2147483648), 2147483647), (0, 0, (-2147483648), 2147483647)], some (0, (-2147483648), 2147483647), [(219, 0, 1)], [], [[]], false, 2)
theorem aet_525 : ae_CT aec_525 := ae_con_ok ae_rok_ok ae_fok_ok (fuel := 100000) (cts := [aec_524]) (mcs := []) (cus := [(338, 112, ([0, 1, 2, 3, 4], [(0, 5, 0, 0, false, 0, 7, 0, 7)], [(219, 0, 0)], [], 0, true)), (338, 159, ([0, 1, 2, 3, 4], [(0, 5, 0, 0, false, (-1), 99, (-1), 99), (0, 6, 0, 0, false, (-1), 99, (-1), 99), (0, 7, 0, 0, false, (-2147483648), 2147483647, (-2147483648), 2147483647), (0, 8, 0, 0, false, 0, 100, 0, 100)], [], [], 3, true))]) (sps := []) (af_kc (by decide +kernel)) (ae_ctc aet_524 (fun _ q => absurd q List.not_mem_nil)) (fun _ q => absurd q List.not_mem_nil)
/-! LastLayerModel.winds: 38 steps -/
noncomputable def aec_526 : ae_Ct := (340, [(2, 219, 0, 0)], none, [(219, 43, 43), (224, 61, 64)], [], [[]], false, 1)
theorem aet_526 : ae_CT aec_526 := ae_con_ok ae_rok_ok ae_fok_ok (fuel := 100000) (cts := []) (mcs := []) (cus := [(340, 2, ([0], [(0, 1, 0, 0, false, 0, 4, 0, 4)], [(219, 43, 43), (224, 61, 64)], [], 0, true))]) (sps := []) (af_kc (by decide +kernel)) (fun _ q => absurd q List.not_mem_nil) (fun _ q => absurd q List.not_mem_nil)
/-! LastLayerModel.hourGoes: 296 steps -/
noncomputable def aec_527 : ae_Ct := (341, [(2, 219, 0, 0), (0, 0, (-2147483648), 2147483647)], some (0, 0, 1), [(219, 46, 46), (224, 8, 11), (224, 17, 24), (224, 29, 61), (224, 73, 76), (224, 89, 96), (224, 105, 108), (227, 0, 3)], [], [[]], false, 5)
theorem aet_527 : ae_CT aec_527 := ae_con_ok ae_rok_ok ae_fok_ok (fuel := 100000) (cts := [aec_407]) (mcs := []) (cus := [(293, 23, ([0, 1, 2, 3], [(0, 4, 0, 0, false, 0, 2147483647, 0, 2147483647)], [(224, 9, 11), (224, 29, 60), (224, 73, 76), (224, 89, 96), (224, 105, 108), (227, 0, 3)], [], 0, true))]) (sps := []) (af_kc (by decide +kernel)) (ae_ctc aet_407 (fun _ q => absurd q List.not_mem_nil)) (fun _ q => absurd q List.not_mem_nil)

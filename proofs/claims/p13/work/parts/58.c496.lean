/-! Contracts 496 to 527 -/
/-! LastLayerModel.runsSo: 89 steps -/
noncomputable def aec_496 : ae_Ct := (337, [(2, 219, 0, 0), (0, 0, 0, 3), (0, 0, 0, 3), (0, 0, 1, 1), (0, 0, 0, 2)], some (0, 0, 1), [], [], [[]], false, 1)
theorem aet_496 : ae_CT aec_496 := ae_con_ok ae_rok_ok ae_fok_ok (fuel := 100000) (cts := []) (mcs := []) (cus := [(337, 16, ([0, 1, 2, 3, 4], [(0, 5, 0, 0, false, (-2147483648), 2147483647, (-2147483648), 2147483647), (0, 6, 0, 0, false, 0, 1, 0, 1)], [], [], 1, true))]) (sps := []) (af_kc (by decide +kernel)) (fun _ q => absurd q List.not_mem_nil) (fun _ q => absurd q List.not_mem_nil)
/-! LastLayerModel.runsSo: 89 steps -/
noncomputable def aec_497 : ae_Ct := (337, [(2, 219, 0, 0), (0, 0, 0, 3), (0, 0, 0, 3), (0, 0, 1, 1), (0, 0, 0, 3)], some (0, 0, 1), [], [], [[]], false, 1)
theorem aet_497 : ae_CT aec_497 := ae_con_ok ae_rok_ok ae_fok_ok (fuel := 100000) (cts := []) (mcs := []) (cus := [(337, 16, ([0, 1, 2, 3, 4], [(0, 5, 0, 0, false, (-2147483648), 2147483647, (-2147483648), 2147483647), (0, 6, 0, 0, false, 0, 1, 0, 1)], [], [], 1, true))]) (sps := []) (af_kc (by decide +kernel)) (fun _ q => absurd q List.not_mem_nil) (fun _ q => absurd q List.not_mem_nil)
/-! LastLayerModel.runsSo: 89 steps -/
noncomputable def aec_498 : ae_Ct := (337, [(2, 219, 0, 0), (0, 0, 0, 3), (0, 0, 0, 3), (0, 0, 1, 1), (0, 0, 0, 4)], some (0, 0, 1), [], [], [[]], false, 1)
theorem aet_498 : ae_CT aec_498 := ae_con_ok ae_rok_ok ae_fok_ok (fuel := 100000) (cts := []) (mcs := []) (cus := [(337, 16, ([0, 1, 2, 3, 4], [(0, 5, 0, 0, false, (-2147483648), 2147483647, (-2147483648), 2147483647), (0, 6, 0, 0, false, 0, 1, 0, 1)], [], [], 1, true))]) (sps := []) (af_kc (by decide +kernel)) (fun _ q => absurd q List.not_mem_nil) (fun _ q => absurd q List.not_mem_nil)
/-! LastLayerModel.runsSo: 89 steps -/
noncomputable def aec_499 : ae_Ct := (337, [(2, 219, 0, 0), (0, 0, 0, 3), (0, 0, 0, 3), (0, 0, 1, 1), (0, 0, 0, 5)], some (0, 0, 1), [], [], [[]], false, 1)
theorem aet_499 : ae_CT aec_499 := ae_con_ok ae_rok_ok ae_fok_ok (fuel := 100000) (cts := []) (mcs := []) (cus := [(337, 16, ([0, 1, 2, 3, 4], [(0, 5, 0, 0, false, (-2147483648), 2147483647, (-2147483648), 2147483647), (0, 6, 0, 0, false, 0, 1, 0, 1)], [], [], 1, true))]) (sps := []) (af_kc (by decide +kernel)) (fun _ q => absurd q List.not_mem_nil) (fun _ q => absurd q List.not_mem_nil)
/-! LastLayerModel.runsSo: 89 steps -/
noncomputable def aec_500 : ae_Ct := (337, [(2, 219, 0, 0), (0, 0, 0, 3), (0, 0, 0, 3), (0, 0, 1, 1), (0, 0, 0, 6)], some (0, 0, 1), [], [], [[]], false, 1)
theorem aet_500 : ae_CT aec_500 := ae_con_ok ae_rok_ok ae_fok_ok (fuel := 100000) (cts := []) (mcs := []) (cus := [(337, 16, ([0, 1, 2, 3, 4], [(0, 5, 0, 0, false, (-2147483648), 2147483647, (-2147483648), 2147483647), (0, 6, 0, 0, false, 0, 1, 0, 1)], [], [], 1, true))]) (sps := []) (af_kc (by decide +kernel)) (fun _ q => absurd q List.not_mem_nil) (fun _ q => absurd q List.not_mem_nil)
/-! LastLayerModel.runsSo: 89 steps -/
noncomputable def aec_501 : ae_Ct := (337, [(2, 219, 0, 0), (0, 0, 0, 3), (0, 0, 0, 3), (0, 0, 1, 1), (0, 0, 0, 7)], some (0, 0, 1), [], [], [[]], false, 1)
theorem aet_501 : ae_CT aec_501 := ae_con_ok ae_rok_ok ae_fok_ok (fuel := 100000) (cts := []) (mcs := []) (cus := [(337, 16, ([0, 1, 2, 3, 4], [(0, 5, 0, 0, false, (-2147483648), 2147483647, (-2147483648), 2147483647), (0, 6, 0, 0, false, 0, 1, 0, 1)], [], [], 1, true))]) (sps := []) (af_kc (by decide +kernel)) (fun _ q => absurd q List.not_mem_nil) (fun _ q => absurd q List.not_mem_nil)
/-! LastLayerModel.runsSo: 89 steps -/
noncomputable def aec_502 : ae_Ct := (337, [(2, 219, 0, 0), (0, 0, 0, 3), (0, 0, 0, 3), (0, 0, 1, 1), (0, 0, 0, 8)], some (0, 0, 1), [], [], [[]], false, 1)
theorem aet_502 : ae_CT aec_502 := ae_con_ok ae_rok_ok ae_fok_ok (fuel := 100000) (cts := []) (mcs := []) (cus := [(337, 16, ([0, 1, 2, 3, 4], [(0, 5, 0, 0, false, (-2147483648), 2147483647, (-2147483648), 2147483647), (0, 6, 0, 0, false, 0, 1, 0, 1)], [], [], 1, true))]) (sps := []) (af_kc (by decide +kernel)) (fun _ q => absurd q List.not_mem_nil) (fun _ q => absurd q List.not_mem_nil)
/-! LastLayerModel.runsSo: 89 steps -/
noncomputable def aec_503 : ae_Ct := (337, [(2, 219, 0, 0), (0, 0, 0, 3), (0, 0, 0, 3), (0, 0, 1, 1), (0, 0, 0, 9)], some (0, 0, 1), [], [], [[]], false, 1)
theorem aet_503 : ae_CT aec_503 := ae_con_ok ae_rok_ok ae_fok_ok (fuel := 100000) (cts := []) (mcs := []) (cus := [(337, 16, ([0, 1, 2, 3, 4], [(0, 5, 0, 0, false, (-2147483648), 2147483647, (-2147483648), 2147483647), (0, 6, 0, 0, false, 0, 1, 0, 1)], [], [], 1, true))]) (sps := []) (af_kc (by decide +kernel)) (fun _ q => absurd q List.not_mem_nil) (fun _ q => absurd q List.not_mem_nil)
/-! LastLayerModel.runsSo: 89 steps -/
noncomputable def aec_504 : ae_Ct := (337, [(2, 219, 0, 0), (0, 0, 0, 3), (0, 0, 0, 3), (0, 0, 1, 1), (0, 0, 0, 10)], some (0, 0, 1), [], [], [[]], false, 1)
theorem aet_504 : ae_CT aec_504 := ae_con_ok ae_rok_ok ae_fok_ok (fuel := 100000) (cts := []) (mcs := []) (cus := [(337, 16, ([0, 1, 2, 3, 4], [(0, 5, 0, 0, false, (-2147483648), 2147483647, (-2147483648), 2147483647), (0, 6, 0, 0, false, 0, 1, 0, 1)], [], [], 1, true))]) (sps := []) (af_kc (by decide +kernel)) (fun _ q => absurd q List.not_mem_nil) (fun _ q => absurd q List.not_mem_nil)
/-! LastLayerModel.runsSo: 89 steps -/
noncomputable def aec_505 : ae_Ct := (337, [(2, 219, 0, 0), (0, 0, 0, 3), (0, 0, 0, 3), (0, 0, 1, 1), (0, 0, 0, 11)], some (0, 0, 1), [], [], [[]], false, 1)
theorem aet_505 : ae_CT aec_505 := ae_con_ok ae_rok_ok ae_fok_ok (fuel := 100000) (cts := []) (mcs := []) (cus := [(337, 16, ([0, 1, 2, 3, 4], [(0, 5, 0, 0, false, (-2147483648), 2147483647, (-2147483648), 2147483647), (0, 6, 0, 0, false, 0, 1, 0, 1)], [], [], 1, true))]) (sps := []) (af_kc (by decide +kernel)) (fun _ q => absurd q List.not_mem_nil) (fun _ q => absurd q List.not_mem_nil)
/-! LastLayerModel.runsSo: 89 steps -/
noncomputable def aec_506 : ae_Ct := (337, [(2, 219, 0, 0), (0, 0, 0, 3), (0, 0, 0, 3), (0, 0, 1, 1), (0, 0, 0, 12)], some (0, 0, 1), [], [], [[]], false, 1)
theorem aet_506 : ae_CT aec_506 := ae_con_ok ae_rok_ok ae_fok_ok (fuel := 100000) (cts := []) (mcs := []) (cus := [(337, 16, ([0, 1, 2, 3, 4], [(0, 5, 0, 0, false, (-2147483648), 2147483647, (-2147483648), 2147483647), (0, 6, 0, 0, false, 0, 1, 0, 1)], [], [], 1, true))]) (sps := []) (af_kc (by decide +kernel)) (fun _ q => absurd q List.not_mem_nil) (fun _ q => absurd q List.not_mem_nil)
/-! LastLayerModel.runsSo: 89 steps -/
noncomputable def aec_507 : ae_Ct := (337, [(2, 219, 0, 0), (0, 0, 0, 3), (0, 0, 0, 3), (0, 0, 1, 1), (0, 0, 0, 13)], some (0, 0, 1), [], [], [[]], false, 1)
theorem aet_507 : ae_CT aec_507 := ae_con_ok ae_rok_ok ae_fok_ok (fuel := 100000) (cts := []) (mcs := []) (cus := [(337, 16, ([0, 1, 2, 3, 4], [(0, 5, 0, 0, false, (-2147483648), 2147483647, (-2147483648), 2147483647), (0, 6, 0, 0, false, 0, 1, 0, 1)], [], [], 1, true))]) (sps := []) (af_kc (by decide +kernel)) (fun _ q => absurd q List.not_mem_nil) (fun _ q => absurd q List.not_mem_nil)
/-! LastLayerModel.runsSo: 89 steps -/
noncomputable def aec_508 : ae_Ct := (337, [(2, 219, 0, 0), (0, 0, 0, 3), (0, 0, 0, 3), (0, 0, 1, 1), (0, 0, 0, 14)], some (0, 0, 1), [], [], [[]], false, 1)
theorem aet_508 : ae_CT aec_508 := ae_con_ok ae_rok_ok ae_fok_ok (fuel := 100000) (cts := []) (mcs := []) (cus := [(337, 16, ([0, 1, 2, 3, 4], [(0, 5, 0, 0, false, (-2147483648), 2147483647, (-2147483648), 2147483647), (0, 6, 0, 0, false, 0, 1, 0, 1)], [], [], 1, true))]) (sps := []) (af_kc (by decide +kernel)) (fun _ q => absurd q List.not_mem_nil) (fun _ q => absurd q List.not_mem_nil)
/-! LastLayerModel.runsSo: 89 steps -/
noncomputable def aec_509 : ae_Ct := (337, [(2, 219, 0, 0), (0, 0, 0, 3), (0, 0, 0, 3), (0, 0, 1, 1), (0, 0, 0, 15)], some (0, 0, 1), [], [], [[]], false, 1)
theorem aet_509 : ae_CT aec_509 := ae_con_ok ae_rok_ok ae_fok_ok (fuel := 100000) (cts := []) (mcs := []) (cus := [(337, 16, ([0, 1, 2, 3, 4], [(0, 5, 0, 0, false, (-2147483648), 2147483647, (-2147483648), 2147483647), (0, 6, 0, 0, false, 0, 1, 0, 1)], [], [], 1, true))]) (sps := []) (af_kc (by decide +kernel)) (fun _ q => absurd q List.not_mem_nil) (fun _ q => absurd q List.not_mem_nil)
/-! LastLayerModel.runsSo: 89 steps -/
noncomputable def aec_510 : ae_Ct := (337, [(2, 219, 0, 0), (0, 0, 0, 3), (0, 0, 0, 3), (0, 0, 1, 1), (0, 0, 0, 16)], some (0, 0, 1), [], [], [[]], false, 1)
theorem aet_510 : ae_CT aec_510 := ae_con_ok ae_rok_ok ae_fok_ok (fuel := 100000) (cts := []) (mcs := []) (cus := [(337, 16, ([0, 1, 2, 3, 4], [(0, 5, 0, 0, false, (-2147483648), 2147483647, (-2147483648), 2147483647), (0, 6, 0, 0, false, 0, 1, 0, 1)], [], [], 1, true))]) (sps := []) (af_kc (by decide +kernel)) (fun _ q => absurd q List.not_mem_nil) (fun _ q => absurd q List.not_mem_nil)
/-! LastLayerModel.runsSo: 89 steps -/
noncomputable def aec_511 : ae_Ct := (337, [(2, 219, 0, 0), (0, 0, 0, 3), (0, 0, 0, 3), (0, 0, 1, 1), (0, 0, 0, 20)], some (0, 0, 1), [], [], [[]], false, 1)
theorem aet_511 : ae_CT aec_511 := ae_con_ok ae_rok_ok ae_fok_ok (fuel := 100000) (cts := []) (mcs := []) (cus := [(337, 16, ([0, 1, 2, 3, 4], [(0, 5, 0, 0, false, (-2147483648), 2147483647, (-2147483648), 2147483647), (0, 6, 0, 0, false, 0, 1, 0, 1)], [], [], 1, true))]) (sps := []) (af_kc (by decide +kernel)) (fun _ q => absurd q List.not_mem_nil) (fun _ q => absurd q List.not_mem_nil)
/-! LastLayerModel.runsSo: 89 steps -/
noncomputable def aec_512 : ae_Ct := (337, [(2, 219, 0, 0), (0, 0, 0, 3), (0, 0, 0, 3), (0, 0, 1, 1), (0, 0, 0, 28)], some (0, 0, 1), [], [], [[]], false, 1)
theorem aet_512 : ae_CT aec_512 := ae_con_ok ae_rok_ok ae_fok_ok (fuel := 100000) (cts := []) (mcs := []) (cus := [(337, 16, ([0, 1, 2, 3, 4], [(0, 5, 0, 0, false, (-2147483648), 2147483647, (-2147483648), 2147483647), (0, 6, 0, 0, false, 0, 1, 0, 1)], [], [], 1, true))]) (sps := []) (af_kc (by decide +kernel)) (fun _ q => absurd q List.not_mem_nil) (fun _ q => absurd q List.not_mem_nil)
/-! LastLayerModel.runsSo: 89 steps -/
noncomputable def aec_513 : ae_Ct := (337, [(2, 219, 0, 0), (0, 0, 0, 3), (0, 0, 0, 3), (0, 0, 1, 1), (0, 0, 0, 29)], some (0, 0, 1), [], [], [[]], false, 1)
theorem aet_513 : ae_CT aec_513 := ae_con_ok ae_rok_ok ae_fok_ok (fuel := 100000) (cts := []) (mcs := []) (cus := [(337, 16, ([0, 1, 2, 3, 4], [(0, 5, 0, 0, false, (-2147483648), 2147483647, (-2147483648), 2147483647), (0, 6, 0, 0, false, 0, 1, 0, 1)], [], [], 1, true))]) (sps := []) (af_kc (by decide +kernel)) (fun _ q => absurd q List.not_mem_nil) (fun _ q => absurd q List.not_mem_nil)
/-! LastLayerModel.runsSo: 89 steps -/
noncomputable def aec_514 : ae_Ct := (337, [(2, 219, 0, 0), (0, 0, 0, 3), (0, 0, 0, 3), (0, 0, 1, 1), (0, 0, 0, 30)], some (0, 0, 1), [], [], [[]], false, 1)
theorem aet_514 : ae_CT aec_514 := ae_con_ok ae_rok_ok ae_fok_ok (fuel := 100000) (cts := []) (mcs := []) (cus := [(337, 16, ([0, 1, 2, 3, 4], [(0, 5, 0, 0, false, (-2147483648), 2147483647, (-2147483648), 2147483647), (0, 6, 0, 0, false, 0, 1, 0, 1)], [], [], 1, true))]) (sps := []) (af_kc (by decide +kernel)) (fun _ q => absurd q List.not_mem_nil) (fun _ q => absurd q List.not_mem_nil)
/-! LastLayerModel.runsSo: 89 steps -/
noncomputable def aec_515 : ae_Ct := (337, [(2, 219, 0, 0), (0, 0, 0, 3), (0, 0, 0, 3), (0, 0, 1, 1), (0, 0, 0, 31)], some (0, 0, 1), [], [], [[]], false, 1)
theorem aet_515 : ae_CT aec_515 := ae_con_ok ae_rok_ok ae_fok_ok (fuel := 100000) (cts := []) (mcs := []) (cus := [(337, 16, ([0, 1, 2, 3, 4], [(0, 5, 0, 0, false, (-2147483648), 2147483647, (-2147483648), 2147483647), (0, 6, 0, 0, false, 0, 1, 0, 1)], [], [], 1, true))]) (sps := []) (af_kc (by decide +kernel)) (fun _ q => absurd q List.not_mem_nil) (fun _ q => absurd q List.not_mem_nil)
/-! LastLayerModel.runsSo: 89 steps -/
noncomputable def aec_516 : ae_Ct := (337, [(2, 219, 0, 0), (0, 0, 0, 3), (0, 0, 0, 3), (0, 0, 1, 1), (0, 0, 0, 60)], some (0, 0, 1), [], [], [[]], false, 1)
theorem aet_516 : ae_CT aec_516 := ae_con_ok ae_rok_ok ae_fok_ok (fuel := 100000) (cts := []) (mcs := []) (cus := [(337, 16, ([0, 1, 2, 3, 4], [(0, 5, 0, 0, false, (-2147483648), 2147483647, (-2147483648), 2147483647), (0, 6, 0, 0, false, 0, 1, 0, 1)], [], [], 1, true))]) (sps := []) (af_kc (by decide +kernel)) (fun _ q => absurd q List.not_mem_nil) (fun _ q => absurd q List.not_mem_nil)
/-! LastLayerModel.runsSo: 89 steps -/
noncomputable def aec_517 : ae_Ct := (337, [(2, 219, 0, 0), (0, 0, 0, 3), (0, 0, 0, 3), (0, 0, 1, 1), (0, 0, 0, 61)], some (0, 0, 1), [], [], [[]], false, 1)
theorem aet_517 : ae_CT aec_517 := ae_con_ok ae_rok_ok ae_fok_ok (fuel := 100000) (cts := []) (mcs := []) (cus := [(337, 16, ([0, 1, 2, 3, 4], [(0, 5, 0, 0, false, (-2147483648), 2147483647, (-2147483648), 2147483647), (0, 6, 0, 0, false, 0, 1, 0, 1)], [], [], 1, true))]) (sps := []) (af_kc (by decide +kernel)) (fun _ q => absurd q List.not_mem_nil) (fun _ q => absurd q List.not_mem_nil)
/-! LastLayerModel.runsSo: 89 steps -/
noncomputable def aec_518 : ae_Ct := (337, [(2, 219, 0, 0), (0, 0, 0, 3), (0, 0, 0, 3), (0, 0, 1, 1), (0, 0, 0, 99)], some (0, 0, 1), [], [], [[]], false, 1)
theorem aet_518 : ae_CT aec_518 := ae_con_ok ae_rok_ok ae_fok_ok (fuel := 100000) (cts := []) (mcs := []) (cus := [(337, 16, ([0, 1, 2, 3, 4], [(0, 5, 0, 0, false, (-2147483648), 2147483647, (-2147483648), 2147483647), (0, 6, 0, 0, false, 0, 1, 0, 1)], [], [], 1, true))]) (sps := []) (af_kc (by decide +kernel)) (fun _ q => absurd q List.not_mem_nil) (fun _ q => absurd q List.not_mem_nil)
/-! LastLayerModel.runsSo: 89 steps -/
noncomputable def aec_519 : ae_Ct := (337, [(2, 219, 0, 0), (0, 0, 0, 3), (0, 0, 0, 3), (0, 0, 1, 2), (0, 0, 0, 99)], some (0, 0, 1), [], [], [[]], false, 1)
theorem aet_519 : ae_CT aec_519 := ae_con_ok ae_rok_ok ae_fok_ok (fuel := 100000) (cts := []) (mcs := []) (cus := [(337, 16, ([0, 1, 2, 3, 4], [(0, 5, 0, 0, false, (-2147483648), 2147483647, (-2147483648), 2147483647), (0, 6, 0, 0, false, 0, 2, 0, 2)], [], [], 1, true))]) (sps := []) (af_kc (by decide +kernel)) (fun _ q => absurd q List.not_mem_nil) (fun _ q => absurd q List.not_mem_nil)
/-! LastLayerModel.runsSo: 89 steps -/
noncomputable def aec_520 : ae_Ct := (337, [(2, 219, 0, 0), (0, 0, 0, 3), (0, 0, 0, 3), (0, 0, 1, 3), (0, 0, 0, 99)], some (0, 0, 1), [], [], [[]], false, 1)
theorem aet_520 : ae_CT aec_520 := ae_con_ok ae_rok_ok ae_fok_ok (fuel := 100000) (cts := []) (mcs := []) (cus := [(337, 16, ([0, 1, 2, 3, 4], [(0, 5, 0, 0, false, (-2147483648), 2147483647, (-2147483648), 2147483647), (0, 6, 0, 0, false, 0, 3, 0, 3)], [], [], 1, true))]) (sps := []) (af_kc (by decide +kernel)) (fun _ q => absurd q List.not_mem_nil) (fun _ q => absurd q List.not_mem_nil)
/-! LastLayerModel.runsSo: 89 steps -/
noncomputable def aec_521 : ae_Ct := (337, [(2, 219, 0, 0), (0, 0, 0, 3), (0, 0, 0, 3), (0, 0, 1, 4), (0, 0, 0, 99)], some (0, 0, 1), [], [], [[]], false, 1)
theorem aet_521 : ae_CT aec_521 := ae_con_ok ae_rok_ok ae_fok_ok (fuel := 100000) (cts := []) (mcs := []) (cus := [(337, 16, ([0, 1, 2, 3, 4], [(0, 5, 0, 0, false, (-2147483648), 2147483647, (-2147483648), 2147483647), (0, 6, 0, 0, false, 0, 4, 0, 4)], [], [], 1, true))]) (sps := []) (af_kc (by decide +kernel)) (fun _ q => absurd q List.not_mem_nil) (fun _ q => absurd q List.not_mem_nil)
/-! LastLayerModel.runsSo: 89 steps -/
noncomputable def aec_522 : ae_Ct := (337, [(2, 219, 0, 0), (0, 0, 0, 3), (0, 0, 0, 3), (0, 0, 1, 5), (0, 0, 0, 99)], some (0, 0, 1), [], [], [[]], false, 1)
theorem aet_522 : ae_CT aec_522 := ae_con_ok ae_rok_ok ae_fok_ok (fuel := 100000) (cts := []) (mcs := []) (cus := [(337, 16, ([0, 1, 2, 3, 4], [(0, 5, 0, 0, false, (-2147483648), 2147483647, (-2147483648), 2147483647), (0, 6, 0, 0, false, 0, 5, 0, 5)], [], [], 1, true))]) (sps := []) (af_kc (by decide +kernel)) (fun _ q => absurd q List.not_mem_nil) (fun _ q => absurd q List.not_mem_nil)
/-! LastLayerModel.runsSo: 89 steps -/
noncomputable def aec_523 : ae_Ct := (337, [(2, 219, 0, 0), (0, 0, 0, 3), (0, 0, 0, 3), (0, 0, 1, 6), (0, 0, 0, 99)], some (0, 0, 1), [], [], [[]], false, 1)
theorem aet_523 : ae_CT aec_523 := ae_con_ok ae_rok_ok ae_fok_ok (fuel := 100000) (cts := []) (mcs := []) (cus := [(337, 16, ([0, 1, 2, 3, 4], [(0, 5, 0, 0, false, (-2147483648), 2147483647, (-2147483648), 2147483647), (0, 6, 0, 0, false, 0, 6, 0, 6)], [], [], 1, true))]) (sps := []) (af_kc (by decide +kernel)) (fun _ q => absurd q List.not_mem_nil) (fun _ q => absurd q List.not_mem_nil)
/-! LastLayerModel.runsSo: 89 steps -/
noncomputable def aec_524 : ae_Ct := (337, [(2, 219, 0, 0), (0, 0, 0, 3), (0, 0, 0, 3), (0, 0, 1, 7), (0, 0, 0, 99)], some (0, 0, 1), [], [], [[]], false, 1)
theorem aet_524 : ae_CT aec_524 := ae_con_ok ae_rok_ok ae_fok_ok (fuel := 100000) (cts := []) (mcs := []) (cus := [(337, 16, ([0, 1, 2, 3, 4], [(0, 5, 0, 0, false, (-2147483648), 2147483647, (-2147483648), 2147483647), (0, 6, 0, 0, false, 0, 7, 0, 7)], [], [], 1, true))]) (sps := []) (af_kc (by decide +kernel)) (fun _ q => absurd q List.not_mem_nil) (fun _ q => absurd q List.not_mem_nil)
/-! LastLayerModel.tells: 351 steps -/
noncomputable def aec_525 : ae_Ct := (338, [(2, 219, 0, 0), (0, 0, (-2147483648), 2147483647), (0, 0, (-2147483648), 2147483647), (0, 0, (-2147483648), 2147483647), (0, 0, (-2147483648), 2147483647)], some (0, (-2147483648), 2147483647), [(219, 0, 1)], [], [[]], false, 2)
theorem aet_525 : ae_CT aec_525 := ae_con_ok ae_rok_ok ae_fok_ok (fuel := 100000) (cts := [aec_524]) (mcs := []) (cus := [(338, 112, ([0, 1, 2, 3, 4], [(0, 5, 0, 0, false, 0, 7, 0, 7)], [(219, 0, 0)], [], 0, true)), (338, 159, ([0, 1, 2, 3, 4], [(0, 5, 0, 0, false, (-1), 99, (-1), 99), (0, 6, 0, 0, false, (-1), 99, (-1), 99), (0, 7, 0, 0, false, (-2147483648), 2147483647, (-2147483648), 2147483647), (0, 8, 0, 0, false, 0, 100, 0, 100)], [], [], 3, true))]) (sps := []) (af_kc (by decide +kernel)) (ae_ctc aet_524 (fun _ q => absurd q List.not_mem_nil)) (fun _ q => absurd q List.not_mem_nil)
/-! LastLayerModel.winds: 38 steps -/
noncomputable def aec_526 : ae_Ct := (340, [(2, 219, 0, 0)], none, [(219, 43, 43), (224, 61, 64)], [], [[]], false, 1)
theorem aet_526 : ae_CT aec_526 := ae_con_ok ae_rok_ok ae_fok_ok (fuel := 100000) (cts := []) (mcs := []) (cus := [(340, 2, ([0], [(0, 1, 0, 0, false, 0, 4, 0, 4)], [(219, 43, 43), (224, 61, 64)], [], 0, true))]) (sps := []) (af_kc (by decide +kernel)) (fun _ q => absurd q List.not_mem_nil) (fun _ q => absurd q List.not_mem_nil)
/-! LastLayerModel.hourGoes: 296 steps -/
noncomputable def aec_527 : ae_Ct := (341, [(2, 219, 0, 0), (0, 0, (-2147483648), 2147483647)], some (0, 0, 1), [(219, 46, 46), (224, 8, 11), (224, 17, 24), (224, 29, 61), (224, 73, 76), (224, 89, 96), (224, 105, 108), (227, 0, 3)], [], [[]], false, 5)
theorem aet_527 : ae_CT aec_527 := ae_con_ok ae_rok_ok ae_fok_ok (fuel := 100000) (cts := [aec_407]) (mcs := []) (cus := [(293, 23, ([0, 1, 2, 3], [(0, 4, 0, 0, false, 0, 2147483647, 0, 2147483647)], [(224, 9, 11), (224, 29, 60), (224, 73, 76), (224, 89, 96), (224, 105, 108), (227, 0, 3)], [], 0, true))]) (sps := []) (af_kc (by decide +kernel)) (ae_ctc aet_407 (fun _ q => absurd q List.not_mem_nil)) (fun _ q => absurd q List.not_mem_nil)

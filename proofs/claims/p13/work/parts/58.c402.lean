/-! Contracts 402 to 417 -/
/-! LastLayerModel.passes: 144 steps -/
noncomputable def aec_402 : ae_Ct := (290, [(2, 219, 0, 0), (0, 0, 0, 1), (0, 0, (-2147483648), 2147483647), (0, 0, 0, 1)], none, [(224, 10, 10), (224, 29, 60), (224, 73, 74), (224, 89, 96), (224, 105, 108)], [], [[]], false, 2)
theorem aet_402 : ae_CT aec_402 := ae_con_ok ae_rok_ok ae_fok_ok (fuel := 100000) (cts := [aec_399, aec_401]) (mcs := []) (cus := [(290, 11, ([0, 1, 2, 3], [(0, 4, 0, 0, false, (-2147483648), 2147483647, (-2147483648), 2147483647), (0, 5, 0, 0, false, 0, 4, 0, 4)], [(224, 89, 96)], [], 1, true)), (290, 140, ([0, 1, 2, 3], [(0, 4, 0, 0, false, (-2147483648), 2147483647, (-2147483648), 2147483647), (0, 5, 0, 0, false, 0, 4, 0, 4)], [(224, 105, 108)], [], 1, true))]) (sps := []) (af_kc (by decide +kernel)) (ae_ctc aet_399 (ae_ctc aet_401 (fun _ q => absurd q List.not_mem_nil))) (fun _ q => absurd q List.not_mem_nil)
/-! LastLayerModel.getsOff: 162 steps -/
noncomputable def aec_403 : ae_Ct := (289, [(2, 219, 0, 0), (0, 0, 0, 2), (0, 0, (-2147483648), 2147483647), (0, 0, (-2147483648), 2147483647), (0, 0, 0, 1)], none, [(224, 10, 10), (224, 29, 60), (224, 73, 75)], [], [[]], false, 1)
theorem aet_403 : ae_CT aec_403 := ae_con_ok ae_rok_ok ae_fok_ok (fuel := 100000) (cts := []) (mcs := []) (cus := []) (sps := []) (af_kc (by decide +kernel)) (fun _ q => absurd q List.not_mem_nil) (fun _ q => absurd q List.not_mem_nil)
/-! LastLayerModel.passes: 144 steps -/
noncomputable def aec_404 : ae_Ct := (290, [(2, 219, 0, 0), (0, 0, 0, 2), (0, 0, (-2147483648), 2147483647), (0, 0, 0, 1)], none, [(224, 10, 10), (224, 29, 60), (224, 73, 75), (224, 89, 96), (224, 105, 108)], [], [[]], false, 2)
theorem aet_404 : ae_CT aec_404 := ae_con_ok ae_rok_ok ae_fok_ok (fuel := 100000) (cts := [aec_399, aec_403]) (mcs := []) (cus := [(290, 11, ([0, 1, 2, 3], [(0, 4, 0, 0, false, (-2147483648), 2147483647, (-2147483648), 2147483647), (0, 5, 0, 0, false, 0, 4, 0, 4)], [(224, 89, 96)], [], 1, true)), (290, 140, ([0, 1, 2, 3], [(0, 4, 0, 0, false, (-2147483648), 2147483647, (-2147483648), 2147483647), (0, 5, 0, 0, false, 0, 4, 0, 4)], [(224, 105, 108)], [], 1, true))]) (sps := []) (af_kc (by decide +kernel)) (ae_ctc aet_399 (ae_ctc aet_403 (fun _ q => absurd q List.not_mem_nil))) (fun _ q => absurd q List.not_mem_nil)
/-! LastLayerModel.getsOff: 162 steps -/
noncomputable def aec_405 : ae_Ct := (289, [(2, 219, 0, 0), (0, 0, 0, 3), (0, 0, (-2147483648), 2147483647), (0, 0, (-2147483648), 2147483647), (0, 0, 0, 1)], none, [(224, 10, 10), (224, 29, 60), (224, 73, 76)], [], [[]], false, 1)
theorem aet_405 : ae_CT aec_405 := ae_con_ok ae_rok_ok ae_fok_ok (fuel := 100000) (cts := []) (mcs := []) (cus := []) (sps := []) (af_kc (by decide +kernel)) (fun _ q => absurd q List.not_mem_nil) (fun _ q => absurd q List.not_mem_nil)
/-! LastLayerModel.passes: 144 steps -/
noncomputable def aec_406 : ae_Ct := (290, [(2, 219, 0, 0), (0, 0, 0, 3), (0, 0, (-2147483648), 2147483647), (0, 0, 0, 1)], none, [(224, 10, 10), (224, 29, 60), (224, 73, 76), (224, 89, 96), (224, 105, 108)], [], [[]], false, 2)
theorem aet_406 : ae_CT aec_406 := ae_con_ok ae_rok_ok ae_fok_ok (fuel := 100000) (cts := [aec_399, aec_405]) (mcs := []) (cus := [(290, 11, ([0, 1, 2, 3], [(0, 4, 0, 0, false, (-2147483648), 2147483647, (-2147483648), 2147483647), (0, 5, 0, 0, false, 0, 4, 0, 4)], [(224, 89, 96)], [], 1, true)), (290, 140, ([0, 1, 2, 3], [(0, 4, 0, 0, false, (-2147483648), 2147483647, (-2147483648), 2147483647), (0, 5, 0, 0, false, 0, 4, 0, 4)], [(224, 105, 108)], [], 1, true))]) (sps := []) (af_kc (by decide +kernel)) (ae_ctc aet_399 (ae_ctc aet_405 (fun _ q => absurd q List.not_mem_nil))) (fun _ q => absurd q List.not_mem_nil)
/-! LastLayerModel.runs: 2306 steps -/
noncomputable def aec_407 : ae_Ct := (291, [(2, 219, 0, 0), (0, 0, (-2147483648), 2147483647), (0, 0, (-2147483648), 2147483647), (0, 0, 0, 1)], some (0, (-2147483648), 2147483647), [(224, 9, 11), (224, 29, 60), (224, 73, 76), (224, 89, 96), (224, 105, 108), (227, 0, 3)], [], [[]], false, 3)
theorem aet_407 : ae_CT aec_407 := ae_con_ok ae_rok_ok ae_fok_ok (fuel := 100000) (cts := [aec_397, aec_400, aec_402, aec_404, aec_406]) (mcs := []) (cus := [(285, 10, ([0, 1, 2], [(0, 3, 0, 0, false, (-2147483648), 2147483647, (-2147483648), 2147483647), (0, 4, 0, 0, false, 0, 4, 0, 4)], [(227, 0, 3)], [], 1, true)), (285, 71, ([0, 1, 2], [(0, 3, 0, 0, false, (-2147483648), 2147483647, (-2147483648), 2147483647), (0, 4, 0, 0, false, 0, 4, 0, 4)], [(227, 0, 3)], [], 1, true)), (291, 52, ([0, 1, 2, 3, 4], [(0, 5, 0, 0, false, 0, 4, 0, 4)], [(224, 10, 10), (224, 29, 60), (224, 73, 76), (224, 89, 96), (224, 105, 108)], [], 0, true))]) (sps := []) (af_kc (by decide +kernel)) (ae_ctc aet_397 (ae_ctc aet_400 (ae_ctc aet_402 (ae_ctc aet_404 (ae_ctc aet_406 (fun _ q => absurd q List.not_mem_nil)))))) (fun _ q => absurd q List.not_mem_nil)
/-! LastLayerModel.hour: 166 steps -/
/-! LastLayerModel.last: 184 steps -/
/-! LastLayerModel.net: 111 steps -/
/-! LastLayerModel.gap: 111 steps -/
/-! LastLayerModel.move: 121 steps -/
/-! LastLayerModel.send: 121 steps -/
/-! LastLayerModel.lean: 109 steps -/
/-! LastLayerModel.tiredSet: 51 steps -/
/-! LastLayerModel.sizeOf: 564 steps -/
noncomputable def aec_416 : ae_Ct := (214, [(0, 0, (-2147483648), 2147483647)], some (0, 0, 4), [], [], [[]], false, 1)
theorem aet_416 : ae_CT aec_416 := ae_con_ok ae_rok_ok ae_fok_ok (fuel := 100000) (cts := []) (mcs := []) (cus := []) (sps := []) (af_kc (by decide +kernel)) (fun _ q => absurd q List.not_mem_nil) (fun _ q => absurd q List.not_mem_nil)
/-! LastLayerModel.rest: 30 steps -/

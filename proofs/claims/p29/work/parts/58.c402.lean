/-! Contracts 402 to 417 -/
/-! LastLayerModel.passes: 144 steps -/
def aec_402 : ae_Ct := (290, [(2, 219, 0, 0), (0, 0, 0, 1), (0, 0, (-2147483648), 2147483647), (0, 0, 0, 1)], none, [(224, 10, 10), (224, 29, 60), (224, 73, 74), (224, 89, 96), (224, 105, 108)], [], [[]], false, 2)
theorem aet_402 : ae_CT aec_402 := ae_con_ok ae_rok_ok ae_fok_ok (fuel := 100000) (cts := [aec_399, aec_401]) (mcs := []) (cus := [(290, 11, ([0, 1, 2, 3], [(0, 4, 0, 0, false, (-2147483648), 2147483647, (-2147483648), 2147483647), (0, 5, 0, 0, false, 0, 4, 0, 4)], [(224, 89, 96)], [], 1, true)), (290, 140, ([0, 1, 2, 3], [(0, 4, 0, 0, false, (-2147483648), 2147483647, (-2147483648), 2147483647), (0, 5, 0, 0, false, 0, 4, 0, 4)], [(224, 105, 108)], [], 1, true))]) (sps := []) (by decide +kernel) (ae_ctc aet_399 (ae_ctc aet_401 (fun _ q => absurd q List.not_mem_nil))) (fun _ q => absurd q List.not_mem_nil)
/-! LastLayerModel.getsOff: 162 steps -/
def aec_403 : ae_Ct := (289, [(2, 219, 0, 0), (0, 0, 0, 2), (0, 0, (-2147483648), 2147483647), (0, 0, (-2147483648), 2147483647), (0, 0, 0, 1)], none, [(224, 10, 10), (224, 29, 60), (224, 73, 75)], [], [[]], false, 1)
theorem aet_403 : ae_CT aec_403 := ae_con_ok ae_rok_ok ae_fok_ok (fuel := 100000) (cts := []) (mcs := []) (cus := []) (sps := []) (by decide +kernel) (fun _ q => absurd q List.not_mem_nil) (fun _ q => absurd q List.not_mem_nil)
/-! LastLayerModel.passes: 144 steps -/
def aec_404 : ae_Ct := (290, [(2, 219, 0, 0), (0, 0, 0, 2), (0, 0, (-2147483648), 2147483647), (0, 0, 0, 1)], none, [(224, 10, 10), (224, 29, 60), (224, 73, 75), (224, 89, 96), (224, 105, 108)], [], [[]], false, 2)
theorem aet_404 : ae_CT aec_404 := ae_con_ok ae_rok_ok ae_fok_ok (fuel := 100000) (cts := [aec_399, aec_403]) (mcs := []) (cus := [(290, 11, ([0, 1, 2, 3], [(0, 4, 0, 0, false, (-2147483648), 2147483647, (-2147483648), 2147483647), (0, 5, 0, 0, false, 0, 4, 0, 4)], [(224, 89, 96)], [], 1, true)), (290, 140, ([0, 1, 2, 3], [(0, 4, 0, 0, false, (-2147483648), 2147483647, (-2147483648), 2147483647), (0, 5, 0, 0, false, 0, 4, 0, 4)], [(224, 105, 108)], [], 1, true))]) (sps := []) (by decide +kernel) (ae_ctc aet_399 (ae_ctc aet_403 (fun _ q => absurd q List.not_mem_nil))) (fun _ q => absurd q List.not_mem_nil)
/-! LastLayerModel.getsOff: 162 steps -/
def aec_405 : ae_Ct := (289, [(2, 219, 0, 0), (0, 0, 0, 3), (0, 0, (-2147483648), 2147483647), (0, 0, (-2147483648), 2147483647), (0, 0, 0, 1)], none, [(224, 10, 10), (224, 29, 60), (224, 73, 76)], [], [[]], false, 1)
theorem aet_405 : ae_CT aec_405 := ae_con_ok ae_rok_ok ae_fok_ok (fuel := 100000) (cts := []) (mcs := []) (cus := []) (sps := []) (by decide +kernel) (fun _ q => absurd q List.not_mem_nil) (fun _ q => absurd q List.not_mem_nil)
/-! LastLayerModel.passes: 144 steps -/
def aec_406 : ae_Ct := (290, [(2, 219, 0, 0), (0, 0, 0, 3), (0, 0, (-2147483648), 2147483647), (0, 0, 0, 1)], none, [(224, 10, 10), (224, 29, 60), (224, 73, 76), (224, 89, 96), (224, 105, 108)], [], [[]], false, 2)
theorem aet_406 : ae_CT aec_406 := ae_con_ok ae_rok_ok ae_fok_ok (fuel := 100000) (cts := [aec_399, aec_405]) (mcs := []) (cus := [(290, 11, ([0, 1, 2, 3], [(0, 4, 0, 0, false, (-2147483648), 2147483647, (-2147483648), 2147483647), (0, 5, 0, 0, false, 0, 4, 0, 4)], [(224, 89, 96)], [], 1, true)), (290, 140, ([0, 1, 2, 3], [(0, 4, 0, 0, false, (-2147483648), 2147483647, (-2147483648), 2147483647), (0, 5, 0, 0, false, 0, 4, 0, 4)], [(224, 105, 108)], [], 1, true))]) (sps := []) (by decide +kernel) (ae_ctc aet_399 (ae_ctc aet_405 (fun _ q => absurd q List.not_mem_nil))) (fun _ q => absurd q List.not_mem_nil)
/-! LastLayerModel.runs: 2306 steps -/
def aec_407 : ae_Ct := (291, [(2, 219, 0, 0), (0, 0, (-2147483648), 2147483647), (0, 0, (-2147483648), 2147483647), (0, 0, 0, 1)], some (0, (-2147483648), 2147483647), [(224, 9, 11), (224, 29, 60), (224, 73, 76), (224, 89, 96), (224, 105, 108), (227, 0, 3)], [], [[]], false, 3)
theorem aet_407 : ae_CT aec_407 := ae_con_ok ae_rok_ok ae_fok_ok (fuel := 100000) (cts := [aec_397, aec_400, aec_402, aec_404, aec_406]) (mcs := []) (cus := [(285, 10, ([0, 1, 2], [(0, 3, 0, 0, false, (-2147483648), 2147483647, (-2147483648), 2147483647), (0, 4, 0, 0, false, 0, 4, 0, 4)], [(227, 0, 3)], [], 1, true)), (285, 71, ([0, 1, 2], [(0, 3, 0, 0, false, (-2147483648), 2147483647, (-2147483648), 2147483647), (0, 4, 0, 0, false, 0, 4, 0, 4)], [(227, 0, 3)], [], 1, true)), (291, 52, ([0, 1, 2, 3, 4], [(0, 5, 0, 0, false, 0, 4, 0, 4)], [(224, 10, 10), (224, 29, 60), (224, 73, 76), (224, 89, 96), (224, 105, 108)], [], 0, true))]) (sps := []) (by decide +kernel) (ae_ctc aet_397 (ae_ctc aet_400 (ae_ctc aet_402 (ae_ctc aet_404 (ae_ctc aet_406 (fun _ q => absurd q List.not_mem_nil)))))) (fun _ q => absurd q List.not_mem_nil)
/-! LastLayerModel.hour: 166 steps -/
def aec_408 : ae_Ct := (295, [(2, 219, 0, 0)], some (0, (-1), 2147483647), [(219, 0, 1), (224, 9, 11), (224, 17, 24), (224, 29, 60), (224, 73, 76), (224, 89, 96), (224, 105, 108), (227, 0, 3)], [], [[]], false, 5)
theorem aet_408 : ae_CT aec_408 := ae_con_ok ae_rok_ok ae_fok_ok (fuel := 100000) (cts := [aec_407]) (mcs := []) (cus := []) (sps := []) (by decide +kernel) (ae_ctc aet_407 (fun _ q => absurd q List.not_mem_nil)) (fun _ q => absurd q List.not_mem_nil)
/-! LastLayerModel.last: 184 steps -/
def aec_409 : ae_Ct := (296, [(2, 219, 0, 0), (0, 0, (-2147483648), 2147483647)], some (0, (-2147483648), 2147483647), [(219, 0, 1), (224, 8, 11), (224, 17, 20), (224, 29, 61), (224, 73, 76), (224, 89, 96), (224, 105, 108), (227, 0, 3)], [], [[]], false, 5)
theorem aet_409 : ae_CT aec_409 := ae_con_ok ae_rok_ok ae_fok_ok (fuel := 100000) (cts := [aec_407]) (mcs := []) (cus := [(293, 23, ([0, 1, 2, 3], [(0, 4, 0, 0, false, 0, 20, 0, 20)], [(224, 9, 11), (224, 29, 60), (224, 73, 76), (224, 89, 96), (224, 105, 108), (227, 0, 3)], [], 0, true))]) (sps := []) (by decide +kernel) (ae_ctc aet_407 (fun _ q => absurd q List.not_mem_nil)) (fun _ q => absurd q List.not_mem_nil)
/-! LastLayerModel.net: 111 steps -/
def aec_410 : ae_Ct := (298, [(2, 219, 0, 0), (0, 0, (-2147483648), 2147483647)], some (0, 0, 1), [(219, 0, 1), (224, 65, 68)], [], [[]], false, 2)
theorem aet_410 : ae_CT aec_410 := ae_con_ok ae_rok_ok ae_fok_ok (fuel := 100000) (cts := []) (mcs := []) (cus := []) (sps := []) (by decide +kernel) (fun _ q => absurd q List.not_mem_nil) (fun _ q => absurd q List.not_mem_nil)
/-! LastLayerModel.gap: 111 steps -/
def aec_411 : ae_Ct := (299, [(2, 219, 0, 0), (0, 0, (-2147483648), 2147483647)], some (0, 0, 1), [(219, 0, 1), (224, 65, 68)], [], [[]], false, 2)
theorem aet_411 : ae_CT aec_411 := ae_con_ok ae_rok_ok ae_fok_ok (fuel := 100000) (cts := []) (mcs := []) (cus := []) (sps := []) (by decide +kernel) (fun _ q => absurd q List.not_mem_nil) (fun _ q => absurd q List.not_mem_nil)
/-! LastLayerModel.move: 121 steps -/
def aec_412 : ae_Ct := (300, [(2, 219, 0, 0), (0, 0, (-2147483648), 2147483647), (0, 0, (-2147483648), 2147483647)], some (0, 0, 1), [(219, 0, 1), (224, 77, 80)], [], [[]], false, 2)
theorem aet_412 : ae_CT aec_412 := ae_con_ok ae_rok_ok ae_fok_ok (fuel := 100000) (cts := []) (mcs := []) (cus := []) (sps := []) (by decide +kernel) (fun _ q => absurd q List.not_mem_nil) (fun _ q => absurd q List.not_mem_nil)
/-! LastLayerModel.send: 121 steps -/
def aec_413 : ae_Ct := (301, [(2, 219, 0, 0), (0, 0, (-2147483648), 2147483647), (0, 0, (-2147483648), 2147483647)], some (0, 0, 1), [(219, 0, 1), (224, 97, 100)], [], [[]], false, 2)
theorem aet_413 : ae_CT aec_413 := ae_con_ok ae_rok_ok ae_fok_ok (fuel := 100000) (cts := []) (mcs := []) (cus := []) (sps := []) (by decide +kernel) (fun _ q => absurd q List.not_mem_nil) (fun _ q => absurd q List.not_mem_nil)
/-! LastLayerModel.lean: 109 steps -/
def aec_414 : ae_Ct := (302, [(2, 219, 0, 0), (0, 0, (-2147483648), 2147483647), (0, 0, (-2147483648), 2147483647)], some (0, 0, 1), [(219, 0, 1), (224, 61, 64)], [], [[]], false, 2)
theorem aet_414 : ae_CT aec_414 := ae_con_ok ae_rok_ok ae_fok_ok (fuel := 100000) (cts := []) (mcs := []) (cus := []) (sps := []) (by decide +kernel) (fun _ q => absurd q List.not_mem_nil) (fun _ q => absurd q List.not_mem_nil)
/-! LastLayerModel.tiredSet: 51 steps -/
def aec_415 : ae_Ct := (304, [(2, 219, 0, 0)], some (0, (-2147483648), 2147483647), [], [], [[]], false, 1)
theorem aet_415 : ae_CT aec_415 := ae_con_ok ae_rok_ok ae_fok_ok (fuel := 100000) (cts := []) (mcs := []) (cus := [(304, 4, ([0], [(0, 1, 0, 0, false, (-2147483648), 2147483647, (-2147483648), 2147483647), (0, 2, 0, 0, false, 0, 4, 0, 4)], [], [], 1, true))]) (sps := []) (by decide +kernel) (fun _ q => absurd q List.not_mem_nil) (fun _ q => absurd q List.not_mem_nil)
/-! LastLayerModel.sizeOf: 564 steps -/
def aec_416 : ae_Ct := (214, [(0, 0, (-2147483648), 2147483647)], some (0, 0, 4), [], [], [[]], false, 1)
theorem aet_416 : ae_CT aec_416 := ae_con_ok ae_rok_ok ae_fok_ok (fuel := 100000) (cts := []) (mcs := []) (cus := []) (sps := []) (by decide +kernel) (fun _ q => absurd q List.not_mem_nil) (fun _ q => absurd q List.not_mem_nil)
/-! LastLayerModel.rest: 30 steps -/
def aec_417 : ae_Ct := (305, [(2, 219, 0, 0)], some (0, 0, 4), [(219, 0, 1), (224, 93, 96)], [], [[]], false, 2)
theorem aet_417 : ae_CT aec_417 := ae_con_ok ae_rok_ok ae_fok_ok (fuel := 100000) (cts := [aec_415, aec_416]) (mcs := []) (cus := [(305, 20, ([0, 1], [(0, 2, 0, 0, false, 0, 4, 0, 4)], [(224, 93, 96)], [], 0, true))]) (sps := []) (by decide +kernel) (ae_ctc aet_415 (ae_ctc aet_416 (fun _ q => absurd q List.not_mem_nil))) (fun _ q => absurd q List.not_mem_nil)

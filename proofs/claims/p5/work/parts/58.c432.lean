/-! Contracts 432 to 463 -/
/-! LastLayerModel.runsSo: 89 steps -/
def aec_432 : ae_Ct := (337, [(2, 219, 0, 0), (0, 0, 0, 3), (0, 0, 0, 3), (0, 0, 1, 1), (0, 0, 0, 2)], some (0, 0, 1), [], [], [[]], false, 1)
theorem aet_432 : ae_CT aec_432 := ae_con_ok ae_rok_ok ae_fok_ok (fuel := 100000) (cts := []) (mcs := []) (cus := [(337, 16, ([0, 1, 2, 3, 4], [(0, 5, 0, 0, false, (-2147483648), 2147483647, (-2147483648), 2147483647), (0, 6, 0, 0, false, 0, 1, 0, 1)], [], [], 1, true))]) (sps := []) (by decide +kernel) (fun _ q => absurd q List.not_mem_nil) (fun _ q => absurd q List.not_mem_nil)
/-! LastLayerModel.runsSo: 89 steps -/
def aec_433 : ae_Ct := (337, [(2, 219, 0, 0), (0, 0, 0, 3), (0, 0, 0, 3), (0, 0, 1, 1), (0, 0, 0, 3)], some (0, 0, 1), [], [], [[]], false, 1)
theorem aet_433 : ae_CT aec_433 := ae_con_ok ae_rok_ok ae_fok_ok (fuel := 100000) (cts := []) (mcs := []) (cus := [(337, 16, ([0, 1, 2, 3, 4], [(0, 5, 0, 0, false, (-2147483648), 2147483647, (-2147483648), 2147483647), (0, 6, 0, 0, false, 0, 1, 0, 1)], [], [], 1, true))]) (sps := []) (by decide +kernel) (fun _ q => absurd q List.not_mem_nil) (fun _ q => absurd q List.not_mem_nil)
/-! LastLayerModel.runsSo: 89 steps -/
def aec_434 : ae_Ct := (337, [(2, 219, 0, 0), (0, 0, 0, 3), (0, 0, 0, 3), (0, 0, 1, 1), (0, 0, 0, 4)], some (0, 0, 1), [], [], [[]], false, 1)
theorem aet_434 : ae_CT aec_434 := ae_con_ok ae_rok_ok ae_fok_ok (fuel := 100000) (cts := []) (mcs := []) (cus := [(337, 16, ([0, 1, 2, 3, 4], [(0, 5, 0, 0, false, (-2147483648), 2147483647, (-2147483648), 2147483647), (0, 6, 0, 0, false, 0, 1, 0, 1)], [], [], 1, true))]) (sps := []) (by decide +kernel) (fun _ q => absurd q List.not_mem_nil) (fun _ q => absurd q List.not_mem_nil)
/-! LastLayerModel.runsSo: 89 steps -/
def aec_435 : ae_Ct := (337, [(2, 219, 0, 0), (0, 0, 0, 3), (0, 0, 0, 3), (0, 0, 1, 1), (0, 0, 0, 5)], some (0, 0, 1), [], [], [[]], false, 1)
theorem aet_435 : ae_CT aec_435 := ae_con_ok ae_rok_ok ae_fok_ok (fuel := 100000) (cts := []) (mcs := []) (cus := [(337, 16, ([0, 1, 2, 3, 4], [(0, 5, 0, 0, false, (-2147483648), 2147483647, (-2147483648), 2147483647), (0, 6, 0, 0, false, 0, 1, 0, 1)], [], [], 1, true))]) (sps := []) (by decide +kernel) (fun _ q => absurd q List.not_mem_nil) (fun _ q => absurd q List.not_mem_nil)
/-! LastLayerModel.runsSo: 89 steps -/
def aec_436 : ae_Ct := (337, [(2, 219, 0, 0), (0, 0, 0, 3), (0, 0, 0, 3), (0, 0, 1, 1), (0, 0, 0, 6)], some (0, 0, 1), [], [], [[]], false, 1)
theorem aet_436 : ae_CT aec_436 := ae_con_ok ae_rok_ok ae_fok_ok (fuel := 100000) (cts := []) (mcs := []) (cus := [(337, 16, ([0, 1, 2, 3, 4], [(0, 5, 0, 0, false, (-2147483648), 2147483647, (-2147483648), 2147483647), (0, 6, 0, 0, false, 0, 1, 0, 1)], [], [], 1, true))]) (sps := []) (by decide +kernel) (fun _ q => absurd q List.not_mem_nil) (fun _ q => absurd q List.not_mem_nil)
/-! LastLayerModel.runsSo: 89 steps -/
def aec_437 : ae_Ct := (337, [(2, 219, 0, 0), (0, 0, 0, 3), (0, 0, 0, 3), (0, 0, 1, 1), (0, 0, 0, 7)], some (0, 0, 1), [], [], [[]], false, 1)
theorem aet_437 : ae_CT aec_437 := ae_con_ok ae_rok_ok ae_fok_ok (fuel := 100000) (cts := []) (mcs := []) (cus := [(337, 16, ([0, 1, 2, 3, 4], [(0, 5, 0, 0, false, (-2147483648), 2147483647, (-2147483648), 2147483647), (0, 6, 0, 0, false, 0, 1, 0, 1)], [], [], 1, true))]) (sps := []) (by decide +kernel) (fun _ q => absurd q List.not_mem_nil) (fun _ q => absurd q List.not_mem_nil)
/-! LastLayerModel.runsSo: 89 steps -/
def aec_438 : ae_Ct := (337, [(2, 219, 0, 0), (0, 0, 0, 3), (0, 0, 0, 3), (0, 0, 1, 1), (0, 0, 0, 8)], some (0, 0, 1), [], [], [[]], false, 1)
theorem aet_438 : ae_CT aec_438 := ae_con_ok ae_rok_ok ae_fok_ok (fuel := 100000) (cts := []) (mcs := []) (cus := [(337, 16, ([0, 1, 2, 3, 4], [(0, 5, 0, 0, false, (-2147483648), 2147483647, (-2147483648), 2147483647), (0, 6, 0, 0, false, 0, 1, 0, 1)], [], [], 1, true))]) (sps := []) (by decide +kernel) (fun _ q => absurd q List.not_mem_nil) (fun _ q => absurd q List.not_mem_nil)
/-! LastLayerModel.runsSo: 89 steps -/
def aec_439 : ae_Ct := (337, [(2, 219, 0, 0), (0, 0, 0, 3), (0, 0, 0, 3), (0, 0, 1, 1), (0, 0, 0, 9)], some (0, 0, 1), [], [], [[]], false, 1)
theorem aet_439 : ae_CT aec_439 := ae_con_ok ae_rok_ok ae_fok_ok (fuel := 100000) (cts := []) (mcs := []) (cus := [(337, 16, ([0, 1, 2, 3, 4], [(0, 5, 0, 0, false, (-2147483648), 2147483647, (-2147483648), 2147483647), (0, 6, 0, 0, false, 0, 1, 0, 1)], [], [], 1, true))]) (sps := []) (by decide +kernel) (fun _ q => absurd q List.not_mem_nil) (fun _ q => absurd q List.not_mem_nil)
/-! LastLayerModel.runsSo: 89 steps -/
def aec_440 : ae_Ct := (337, [(2, 219, 0, 0), (0, 0, 0, 3), (0, 0, 0, 3), (0, 0, 1, 1), (0, 0, 0, 10)], some (0, 0, 1), [], [], [[]], false, 1)
theorem aet_440 : ae_CT aec_440 := ae_con_ok ae_rok_ok ae_fok_ok (fuel := 100000) (cts := []) (mcs := []) (cus := [(337, 16, ([0, 1, 2, 3, 4], [(0, 5, 0, 0, false, (-2147483648), 2147483647, (-2147483648), 2147483647), (0, 6, 0, 0, false, 0, 1, 0, 1)], [], [], 1, true))]) (sps := []) (by decide +kernel) (fun _ q => absurd q List.not_mem_nil) (fun _ q => absurd q List.not_mem_nil)
/-! LastLayerModel.runsSo: 89 steps -/
def aec_441 : ae_Ct := (337, [(2, 219, 0, 0), (0, 0, 0, 3), (0, 0, 0, 3), (0, 0, 1, 1), (0, 0, 0, 11)], some (0, 0, 1), [], [], [[]], false, 1)
theorem aet_441 : ae_CT aec_441 := ae_con_ok ae_rok_ok ae_fok_ok (fuel := 100000) (cts := []) (mcs := []) (cus := [(337, 16, ([0, 1, 2, 3, 4], [(0, 5, 0, 0, false, (-2147483648), 2147483647, (-2147483648), 2147483647), (0, 6, 0, 0, false, 0, 1, 0, 1)], [], [], 1, true))]) (sps := []) (by decide +kernel) (fun _ q => absurd q List.not_mem_nil) (fun _ q => absurd q List.not_mem_nil)
/-! LastLayerModel.runsSo: 89 steps -/
def aec_442 : ae_Ct := (337, [(2, 219, 0, 0), (0, 0, 0, 3), (0, 0, 0, 3), (0, 0, 1, 1), (0, 0, 0, 12)], some (0, 0, 1), [], [], [[]], false, 1)
theorem aet_442 : ae_CT aec_442 := ae_con_ok ae_rok_ok ae_fok_ok (fuel := 100000) (cts := []) (mcs := []) (cus := [(337, 16, ([0, 1, 2, 3, 4], [(0, 5, 0, 0, false, (-2147483648), 2147483647, (-2147483648), 2147483647), (0, 6, 0, 0, false, 0, 1, 0, 1)], [], [], 1, true))]) (sps := []) (by decide +kernel) (fun _ q => absurd q List.not_mem_nil) (fun _ q => absurd q List.not_mem_nil)
/-! LastLayerModel.runsSo: 89 steps -/
def aec_443 : ae_Ct := (337, [(2, 219, 0, 0), (0, 0, 0, 3), (0, 0, 0, 3), (0, 0, 1, 1), (0, 0, 0, 13)], some (0, 0, 1), [], [], [[]], false, 1)
theorem aet_443 : ae_CT aec_443 := ae_con_ok ae_rok_ok ae_fok_ok (fuel := 100000) (cts := []) (mcs := []) (cus := [(337, 16, ([0, 1, 2, 3, 4], [(0, 5, 0, 0, false, (-2147483648), 2147483647, (-2147483648), 2147483647), (0, 6, 0, 0, false, 0, 1, 0, 1)], [], [], 1, true))]) (sps := []) (by decide +kernel) (fun _ q => absurd q List.not_mem_nil) (fun _ q => absurd q List.not_mem_nil)
/-! LastLayerModel.runsSo: 89 steps -/
def aec_444 : ae_Ct := (337, [(2, 219, 0, 0), (0, 0, 0, 3), (0, 0, 0, 3), (0, 0, 1, 1), (0, 0, 0, 14)], some (0, 0, 1), [], [], [[]], false, 1)
theorem aet_444 : ae_CT aec_444 := ae_con_ok ae_rok_ok ae_fok_ok (fuel := 100000) (cts := []) (mcs := []) (cus := [(337, 16, ([0, 1, 2, 3, 4], [(0, 5, 0, 0, false, (-2147483648), 2147483647, (-2147483648), 2147483647), (0, 6, 0, 0, false, 0, 1, 0, 1)], [], [], 1, true))]) (sps := []) (by decide +kernel) (fun _ q => absurd q List.not_mem_nil) (fun _ q => absurd q List.not_mem_nil)
/-! LastLayerModel.runsSo: 89 steps -/
def aec_445 : ae_Ct := (337, [(2, 219, 0, 0), (0, 0, 0, 3), (0, 0, 0, 3), (0, 0, 1, 1), (0, 0, 0, 15)], some (0, 0, 1), [], [], [[]], false, 1)
theorem aet_445 : ae_CT aec_445 := ae_con_ok ae_rok_ok ae_fok_ok (fuel := 100000) (cts := []) (mcs := []) (cus := [(337, 16, ([0, 1, 2, 3, 4], [(0, 5, 0, 0, false, (-2147483648), 2147483647, (-2147483648), 2147483647), (0, 6, 0, 0, false, 0, 1, 0, 1)], [], [], 1, true))]) (sps := []) (by decide +kernel) (fun _ q => absurd q List.not_mem_nil) (fun _ q => absurd q List.not_mem_nil)
/-! LastLayerModel.runsSo: 89 steps -/
def aec_446 : ae_Ct := (337, [(2, 219, 0, 0), (0, 0, 0, 3), (0, 0, 0, 3), (0, 0, 1, 1), (0, 0, 0, 16)], some (0, 0, 1), [], [], [[]], false, 1)
theorem aet_446 : ae_CT aec_446 := ae_con_ok ae_rok_ok ae_fok_ok (fuel := 100000) (cts := []) (mcs := []) (cus := [(337, 16, ([0, 1, 2, 3, 4], [(0, 5, 0, 0, false, (-2147483648), 2147483647, (-2147483648), 2147483647), (0, 6, 0, 0, false, 0, 1, 0, 1)], [], [], 1, true))]) (sps := []) (by decide +kernel) (fun _ q => absurd q List.not_mem_nil) (fun _ q => absurd q List.not_mem_nil)
/-! LastLayerModel.runsSo: 89 steps -/
def aec_447 : ae_Ct := (337, [(2, 219, 0, 0), (0, 0, 0, 3), (0, 0, 0, 3), (0, 0, 1, 1), (0, 0, 0, 20)], some (0, 0, 1), [], [], [[]], false, 1)
theorem aet_447 : ae_CT aec_447 := ae_con_ok ae_rok_ok ae_fok_ok (fuel := 100000) (cts := []) (mcs := []) (cus := [(337, 16, ([0, 1, 2, 3, 4], [(0, 5, 0, 0, false, (-2147483648), 2147483647, (-2147483648), 2147483647), (0, 6, 0, 0, false, 0, 1, 0, 1)], [], [], 1, true))]) (sps := []) (by decide +kernel) (fun _ q => absurd q List.not_mem_nil) (fun _ q => absurd q List.not_mem_nil)
/-! LastLayerModel.runsSo: 89 steps -/
def aec_448 : ae_Ct := (337, [(2, 219, 0, 0), (0, 0, 0, 3), (0, 0, 0, 3), (0, 0, 1, 1), (0, 0, 0, 28)], some (0, 0, 1), [], [], [[]], false, 1)
theorem aet_448 : ae_CT aec_448 := ae_con_ok ae_rok_ok ae_fok_ok (fuel := 100000) (cts := []) (mcs := []) (cus := [(337, 16, ([0, 1, 2, 3, 4], [(0, 5, 0, 0, false, (-2147483648), 2147483647, (-2147483648), 2147483647), (0, 6, 0, 0, false, 0, 1, 0, 1)], [], [], 1, true))]) (sps := []) (by decide +kernel) (fun _ q => absurd q List.not_mem_nil) (fun _ q => absurd q List.not_mem_nil)
/-! LastLayerModel.runsSo: 89 steps -/
def aec_449 : ae_Ct := (337, [(2, 219, 0, 0), (0, 0, 0, 3), (0, 0, 0, 3), (0, 0, 1, 1), (0, 0, 0, 29)], some (0, 0, 1), [], [], [[]], false, 1)
theorem aet_449 : ae_CT aec_449 := ae_con_ok ae_rok_ok ae_fok_ok (fuel := 100000) (cts := []) (mcs := []) (cus := [(337, 16, ([0, 1, 2, 3, 4], [(0, 5, 0, 0, false, (-2147483648), 2147483647, (-2147483648), 2147483647), (0, 6, 0, 0, false, 0, 1, 0, 1)], [], [], 1, true))]) (sps := []) (by decide +kernel) (fun _ q => absurd q List.not_mem_nil) (fun _ q => absurd q List.not_mem_nil)
/-! LastLayerModel.runsSo: 89 steps -/
def aec_450 : ae_Ct := (337, [(2, 219, 0, 0), (0, 0, 0, 3), (0, 0, 0, 3), (0, 0, 1, 1), (0, 0, 0, 30)], some (0, 0, 1), [], [], [[]], false, 1)
theorem aet_450 : ae_CT aec_450 := ae_con_ok ae_rok_ok ae_fok_ok (fuel := 100000) (cts := []) (mcs := []) (cus := [(337, 16, ([0, 1, 2, 3, 4], [(0, 5, 0, 0, false, (-2147483648), 2147483647, (-2147483648), 2147483647), (0, 6, 0, 0, false, 0, 1, 0, 1)], [], [], 1, true))]) (sps := []) (by decide +kernel) (fun _ q => absurd q List.not_mem_nil) (fun _ q => absurd q List.not_mem_nil)
/-! LastLayerModel.runsSo: 89 steps -/
def aec_451 : ae_Ct := (337, [(2, 219, 0, 0), (0, 0, 0, 3), (0, 0, 0, 3), (0, 0, 1, 1), (0, 0, 0, 31)], some (0, 0, 1), [], [], [[]], false, 1)
theorem aet_451 : ae_CT aec_451 := ae_con_ok ae_rok_ok ae_fok_ok (fuel := 100000) (cts := []) (mcs := []) (cus := [(337, 16, ([0, 1, 2, 3, 4], [(0, 5, 0, 0, false, (-2147483648), 2147483647, (-2147483648), 2147483647), (0, 6, 0, 0, false, 0, 1, 0, 1)], [], [], 1, true))]) (sps := []) (by decide +kernel) (fun _ q => absurd q List.not_mem_nil) (fun _ q => absurd q List.not_mem_nil)
/-! LastLayerModel.runsSo: 89 steps -/
def aec_452 : ae_Ct := (337, [(2, 219, 0, 0), (0, 0, 0, 3), (0, 0, 0, 3), (0, 0, 1, 1), (0, 0, 0, 60)], some (0, 0, 1), [], [], [[]], false, 1)
theorem aet_452 : ae_CT aec_452 := ae_con_ok ae_rok_ok ae_fok_ok (fuel := 100000) (cts := []) (mcs := []) (cus := [(337, 16, ([0, 1, 2, 3, 4], [(0, 5, 0, 0, false, (-2147483648), 2147483647, (-2147483648), 2147483647), (0, 6, 0, 0, false, 0, 1, 0, 1)], [], [], 1, true))]) (sps := []) (by decide +kernel) (fun _ q => absurd q List.not_mem_nil) (fun _ q => absurd q List.not_mem_nil)
/-! LastLayerModel.runsSo: 89 steps -/
def aec_453 : ae_Ct := (337, [(2, 219, 0, 0), (0, 0, 0, 3), (0, 0, 0, 3), (0, 0, 1, 1), (0, 0, 0, 61)], some (0, 0, 1), [], [], [[]], false, 1)
theorem aet_453 : ae_CT aec_453 := ae_con_ok ae_rok_ok ae_fok_ok (fuel := 100000) (cts := []) (mcs := []) (cus := [(337, 16, ([0, 1, 2, 3, 4], [(0, 5, 0, 0, false, (-2147483648), 2147483647, (-2147483648), 2147483647), (0, 6, 0, 0, false, 0, 1, 0, 1)], [], [], 1, true))]) (sps := []) (by decide +kernel) (fun _ q => absurd q List.not_mem_nil) (fun _ q => absurd q List.not_mem_nil)
/-! LastLayerModel.runsSo: 89 steps -/
def aec_454 : ae_Ct := (337, [(2, 219, 0, 0), (0, 0, 0, 3), (0, 0, 0, 3), (0, 0, 1, 1), (0, 0, 0, 99)], some (0, 0, 1), [], [], [[]], false, 1)
theorem aet_454 : ae_CT aec_454 := ae_con_ok ae_rok_ok ae_fok_ok (fuel := 100000) (cts := []) (mcs := []) (cus := [(337, 16, ([0, 1, 2, 3, 4], [(0, 5, 0, 0, false, (-2147483648), 2147483647, (-2147483648), 2147483647), (0, 6, 0, 0, false, 0, 1, 0, 1)], [], [], 1, true))]) (sps := []) (by decide +kernel) (fun _ q => absurd q List.not_mem_nil) (fun _ q => absurd q List.not_mem_nil)
/-! LastLayerModel.runsSo: 89 steps -/
def aec_455 : ae_Ct := (337, [(2, 219, 0, 0), (0, 0, 0, 3), (0, 0, 0, 3), (0, 0, 1, 2), (0, 0, 0, 99)], some (0, 0, 1), [], [], [[]], false, 1)
theorem aet_455 : ae_CT aec_455 := ae_con_ok ae_rok_ok ae_fok_ok (fuel := 100000) (cts := []) (mcs := []) (cus := [(337, 16, ([0, 1, 2, 3, 4], [(0, 5, 0, 0, false, (-2147483648), 2147483647, (-2147483648), 2147483647), (0, 6, 0, 0, false, 0, 2, 0, 2)], [], [], 1, true))]) (sps := []) (by decide +kernel) (fun _ q => absurd q List.not_mem_nil) (fun _ q => absurd q List.not_mem_nil)
/-! LastLayerModel.runsSo: 89 steps -/
def aec_456 : ae_Ct := (337, [(2, 219, 0, 0), (0, 0, 0, 3), (0, 0, 0, 3), (0, 0, 1, 3), (0, 0, 0, 99)], some (0, 0, 1), [], [], [[]], false, 1)
theorem aet_456 : ae_CT aec_456 := ae_con_ok ae_rok_ok ae_fok_ok (fuel := 100000) (cts := []) (mcs := []) (cus := [(337, 16, ([0, 1, 2, 3, 4], [(0, 5, 0, 0, false, (-2147483648), 2147483647, (-2147483648), 2147483647), (0, 6, 0, 0, false, 0, 3, 0, 3)], [], [], 1, true))]) (sps := []) (by decide +kernel) (fun _ q => absurd q List.not_mem_nil) (fun _ q => absurd q List.not_mem_nil)
/-! LastLayerModel.runsSo: 89 steps -/
def aec_457 : ae_Ct := (337, [(2, 219, 0, 0), (0, 0, 0, 3), (0, 0, 0, 3), (0, 0, 1, 4), (0, 0, 0, 99)], some (0, 0, 1), [], [], [[]], false, 1)
theorem aet_457 : ae_CT aec_457 := ae_con_ok ae_rok_ok ae_fok_ok (fuel := 100000) (cts := []) (mcs := []) (cus := [(337, 16, ([0, 1, 2, 3, 4], [(0, 5, 0, 0, false, (-2147483648), 2147483647, (-2147483648), 2147483647), (0, 6, 0, 0, false, 0, 4, 0, 4)], [], [], 1, true))]) (sps := []) (by decide +kernel) (fun _ q => absurd q List.not_mem_nil) (fun _ q => absurd q List.not_mem_nil)
/-! LastLayerModel.runsSo: 89 steps -/
def aec_458 : ae_Ct := (337, [(2, 219, 0, 0), (0, 0, 0, 3), (0, 0, 0, 3), (0, 0, 1, 5), (0, 0, 0, 99)], some (0, 0, 1), [], [], [[]], false, 1)
theorem aet_458 : ae_CT aec_458 := ae_con_ok ae_rok_ok ae_fok_ok (fuel := 100000) (cts := []) (mcs := []) (cus := [(337, 16, ([0, 1, 2, 3, 4], [(0, 5, 0, 0, false, (-2147483648), 2147483647, (-2147483648), 2147483647), (0, 6, 0, 0, false, 0, 5, 0, 5)], [], [], 1, true))]) (sps := []) (by decide +kernel) (fun _ q => absurd q List.not_mem_nil) (fun _ q => absurd q List.not_mem_nil)
/-! LastLayerModel.runsSo: 89 steps -/
def aec_459 : ae_Ct := (337, [(2, 219, 0, 0), (0, 0, 0, 3), (0, 0, 0, 3), (0, 0, 1, 6), (0, 0, 0, 99)], some (0, 0, 1), [], [], [[]], false, 1)
theorem aet_459 : ae_CT aec_459 := ae_con_ok ae_rok_ok ae_fok_ok (fuel := 100000) (cts := []) (mcs := []) (cus := [(337, 16, ([0, 1, 2, 3, 4], [(0, 5, 0, 0, false, (-2147483648), 2147483647, (-2147483648), 2147483647), (0, 6, 0, 0, false, 0, 6, 0, 6)], [], [], 1, true))]) (sps := []) (by decide +kernel) (fun _ q => absurd q List.not_mem_nil) (fun _ q => absurd q List.not_mem_nil)
/-! LastLayerModel.runsSo: 89 steps -/
def aec_460 : ae_Ct := (337, [(2, 219, 0, 0), (0, 0, 0, 3), (0, 0, 0, 3), (0, 0, 1, 7), (0, 0, 0, 99)], some (0, 0, 1), [], [], [[]], false, 1)
theorem aet_460 : ae_CT aec_460 := ae_con_ok ae_rok_ok ae_fok_ok (fuel := 100000) (cts := []) (mcs := []) (cus := [(337, 16, ([0, 1, 2, 3, 4], [(0, 5, 0, 0, false, (-2147483648), 2147483647, (-2147483648), 2147483647), (0, 6, 0, 0, false, 0, 7, 0, 7)], [], [], 1, true))]) (sps := []) (by decide +kernel) (fun _ q => absurd q List.not_mem_nil) (fun _ q => absurd q List.not_mem_nil)
/-! LastLayerModel.tells: 351 steps -/
def aec_461 : ae_Ct := (338, [(2, 219, 0, 0), (0, 0, (-2147483648), 2147483647), (0, 0, (-2147483648), 2147483647), (0, 0, (-2147483648), 2147483647), (0, 0, (-2147483648), 2147483647)], some (0, (-2147483648), 2147483647), [(219, 0, 1)], [], [[]], false, 2)
theorem aet_461 : ae_CT aec_461 := ae_con_ok ae_rok_ok ae_fok_ok (fuel := 100000) (cts := [aec_460]) (mcs := []) (cus := [(338, 112, ([0, 1, 2, 3, 4], [(0, 5, 0, 0, false, 0, 7, 0, 7)], [(219, 0, 0)], [], 0, true)), (338, 159, ([0, 1, 2, 3, 4], [(0, 5, 0, 0, false, (-1), 99, (-1), 99), (0, 6, 0, 0, false, (-1), 99, (-1), 99), (0, 7, 0, 0, false, (-2147483648), 2147483647, (-2147483648), 2147483647), (0, 8, 0, 0, false, 0, 100, 0, 100)], [], [], 3, true))]) (sps := []) (by decide +kernel) (ae_ctc aet_460 (fun _ q => absurd q List.not_mem_nil)) (fun _ q => absurd q List.not_mem_nil)
/-! LastLayerModel.winds: 38 steps -/
def aec_462 : ae_Ct := (340, [(2, 219, 0, 0)], none, [(219, 43, 43), (224, 61, 64)], [], [[]], false, 1)
theorem aet_462 : ae_CT aec_462 := ae_con_ok ae_rok_ok ae_fok_ok (fuel := 100000) (cts := []) (mcs := []) (cus := [(340, 2, ([0], [(0, 1, 0, 0, false, 0, 4, 0, 4)], [(219, 43, 43), (224, 61, 64)], [], 0, true))]) (sps := []) (by decide +kernel) (fun _ q => absurd q List.not_mem_nil) (fun _ q => absurd q List.not_mem_nil)
/-! LastLayerModel.hourGoes: 296 steps -/
def aec_463 : ae_Ct := (341, [(2, 219, 0, 0), (0, 0, (-2147483648), 2147483647)], some (0, 0, 1), [(219, 46, 46), (224, 8, 11), (224, 17, 24), (224, 29, 61), (224, 73, 76), (224, 89, 96), (224, 105, 108), (227, 0, 3)], [], [[]], false, 5)
theorem aet_463 : ae_CT aec_463 := ae_con_ok ae_rok_ok ae_fok_ok (fuel := 100000) (cts := [aec_343]) (mcs := []) (cus := [(293, 23, ([0, 1, 2, 3], [(0, 4, 0, 0, false, 0, 2147483647, 0, 2147483647)], [(224, 9, 11), (224, 29, 60), (224, 73, 76), (224, 89, 96), (224, 105, 108), (227, 0, 3)], [], 0, true))]) (sps := []) (by decide +kernel) (ae_ctc aet_343 (fun _ q => absurd q List.not_mem_nil)) (fun _ q => absurd q List.not_mem_nil)

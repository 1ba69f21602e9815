/-! Contracts 308 to 310 -/
/-! LastLayerModel.named: 38 steps -/
def aec_308 : ae_Ct := (253, [(2, 219, 0, 0), (0, 0, 0, 0), (0, 0, 2, 2)], some (0, (-1), 3), [], [], [[]], true, 0)
theorem aet_308 : ae_CT aec_308 := ae_con_ok ae_rok_ok ae_fok_ok (fuel := 100000) (cts := []) (mcs := []) (cus := [(253, 2, ([0, 1, 2], [(0, 3, 0, 0, false, 0, 4, 0, 4)], [], [], 0, true))]) (sps := []) (by decide +kernel) (fun _ q => absurd q List.not_mem_nil) (fun _ q => absurd q List.not_mem_nil)
/-! LastLayerModel.named: 38 steps -/
def aec_309 : ae_Ct := (253, [(2, 219, 0, 0), (0, 0, 0, 0), (0, 0, 0, 0)], some (0, (-1), 3), [], [], [[]], true, 0)
theorem aet_309 : ae_CT aec_309 := ae_con_ok ae_rok_ok ae_fok_ok (fuel := 100000) (cts := []) (mcs := []) (cus := [(253, 2, ([0, 1, 2], [(0, 3, 0, 0, false, 0, 4, 0, 4)], [], [], 0, true))]) (sps := []) (by decide +kernel) (fun _ q => absurd q List.not_mem_nil) (fun _ q => absurd q List.not_mem_nil)
/-! LastLayerModel.named: 38 steps -/
def aec_310 : ae_Ct := (253, [(2, 219, 0, 0), (0, 0, 0, 0), (0, 0, 1, 1)], some (0, (-1), 3), [], [], [[]], true, 0)
theorem aet_310 : ae_CT aec_310 := ae_con_ok ae_rok_ok ae_fok_ok (fuel := 100000) (cts := []) (mcs := []) (cus := [(253, 2, ([0, 1, 2], [(0, 3, 0, 0, false, 0, 4, 0, 4)], [], [], 0, true))]) (sps := []) (by decide +kernel) (fun _ q => absurd q List.not_mem_nil) (fun _ q => absurd q List.not_mem_nil)

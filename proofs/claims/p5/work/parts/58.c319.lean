/-! Contracts 319 to 329 -/
/-! LastLayerModel.days: 212 steps -/
def aec_319 : ae_Ct := (265, [(2, 219, 0, 0), (0, 0, (-2147483648), 2147483647)], some (0, (-1), 59), [(219, 0, 1), (219, 8, 19), (219, 25, 25), (224, 109, 380), (224, 1651, 1920)], [], [[]], false, 11)
theorem aet_319 : ae_CT aec_319 := ae_con_ok ae_rok_ok ae_fok_ok (fuel := 100000) (cts := [aec_276, aec_318]) (mcs := [aem_20]) (cus := [(265, 42, ([0, 1], [(1, 219, 12, 0, false, 0, 7, 0, 7), (1, 219, 13, 0, false, (-2147483648), 2147483647, (-2147483648), 2147483647), (1, 219, 14, 0, false, 0, 4, 0, 4), (1, 219, 15, 0, false, 0, 900, 0, 900), (1, 219, 16, 0, false, 0, 900, 0, 900), (1, 219, 17, 0, false, (-2147483648), 2147483647, (-2147483648), 2147483647), (1, 219, 18, 0, false, (-2147483648), 2147483647, (-2147483648), 2147483647), (1, 219, 25, 0, false, 0, 30, 0, 30)], [(219, 12, 19), (219, 25, 25), (224, 1651, 1920)], [], 7, true))]) (sps := []) (by decide +kernel) (ae_ctc aet_276 (ae_ctc aet_318 (fun _ q => absurd q List.not_mem_nil))) (ae_mmc aemt_20 (fun _ q => absurd q List.not_mem_nil))
/-! LastLayerModel.tails: 508 steps -/
def aec_320 : ae_Ct := (272, [(2, 219, 0, 0)], some (0, (-2147483648), 2147483647), [], [], [[]], false, 0)
theorem aet_320 : ae_CT aec_320 := ae_con_ok ae_rok_ok ae_fok_ok (fuel := 100000) (cts := []) (mcs := []) (cus := []) (sps := []) (by decide +kernel) (fun _ q => absurd q List.not_mem_nil) (fun _ q => absurd q List.not_mem_nil)
/-! LastLayerModel.many: 100 steps -/
def aec_321 : ae_Ct := (274, [(2, 219, 0, 0), (0, 0, (-2147483648), 2147483647)], some (0, (-2147483648), 2147483647), [(219, 0, 1)], [], [[]], false, 2)
theorem aet_321 : ae_CT aec_321 := ae_con_ok ae_rok_ok ae_fok_ok (fuel := 100000) (cts := [aec_320]) (mcs := []) (cus := []) (sps := []) (by decide +kernel) (ae_ctc aet_320 (fun _ q => absurd q List.not_mem_nil)) (fun _ q => absurd q List.not_mem_nil)
/-! LastLayerModel.ratsOf: 42 steps -/
def aec_322 : ae_Ct := (271, [(2, 219, 0, 0), (0, 0, 0, 3)], some (0, (-2147483648), 2147483647), [], [], [[]], false, 1)
theorem aet_322 : ae_CT aec_322 := ae_con_ok ae_rok_ok ae_fok_ok (fuel := 100000) (cts := []) (mcs := []) (cus := [(271, 4, ([0, 1], [(0, 2, 0, 0, false, (-2147483648), 2147483647, (-2147483648), 2147483647), (0, 3, 0, 0, false, 0, 8, 0, 8)], [], [], 1, true))]) (sps := []) (by decide +kernel) (fun _ q => absurd q List.not_mem_nil) (fun _ q => absurd q List.not_mem_nil)
/-! LastLayerModel.rick: 136 steps -/
def aec_323 : ae_Ct := (275, [(2, 219, 0, 0), (0, 0, (-2147483648), 2147483647), (0, 0, (-2147483648), 2147483647)], some (0, (-2147483648), 2147483647), [(219, 0, 1)], [], [[]], false, 2)
theorem aet_323 : ae_CT aec_323 := ae_con_ok ae_rok_ok ae_fok_ok (fuel := 100000) (cts := [aec_322]) (mcs := []) (cus := []) (sps := []) (by decide +kernel) (ae_ctc aet_322 (fun _ q => absurd q List.not_mem_nil)) (fun _ q => absurd q List.not_mem_nil)
/-! LastLayerModel.layer: 132 steps -/
def aec_324 : ae_Ct := (276, [(2, 219, 0, 0), (0, 0, (-2147483648), 2147483647), (0, 0, (-2147483648), 2147483647)], some (0, (-2147483648), 2147483647), [(219, 0, 1)], [], [[]], false, 2)
theorem aet_324 : ae_CT aec_324 := ae_con_ok ae_rok_ok ae_fok_ok (fuel := 100000) (cts := []) (mcs := []) (cus := []) (sps := []) (by decide +kernel) (fun _ q => absurd q List.not_mem_nil) (fun _ q => absurd q List.not_mem_nil)
/-! LastLayerModel.side: 132 steps -/
def aec_325 : ae_Ct := (277, [(2, 219, 0, 0), (0, 0, (-2147483648), 2147483647), (0, 0, (-2147483648), 2147483647)], some (0, (-2147483648), 2147483647), [(219, 0, 1)], [], [[]], false, 2)
theorem aet_325 : ae_CT aec_325 := ae_con_ok ae_rok_ok ae_fok_ok (fuel := 100000) (cts := []) (mcs := []) (cus := []) (sps := []) (by decide +kernel) (fun _ q => absurd q List.not_mem_nil) (fun _ q => absurd q List.not_mem_nil)
/-! LastLayerModel.dog: 112 steps -/
def aec_326 : ae_Ct := (278, [(2, 219, 0, 0), (0, 0, (-2147483648), 2147483647), (0, 0, (-2147483648), 2147483647)], some (0, (-2147483648), 2147483647), [(219, 0, 1)], [], [[]], false, 2)
theorem aet_326 : ae_CT aec_326 := ae_con_ok ae_rok_ok ae_fok_ok (fuel := 100000) (cts := []) (mcs := []) (cus := []) (sps := []) (by decide +kernel) (fun _ q => absurd q List.not_mem_nil) (fun _ q => absurd q List.not_mem_nil)
/-! LastLayerModel.boy: 112 steps -/
def aec_327 : ae_Ct := (279, [(2, 219, 0, 0), (0, 0, (-2147483648), 2147483647), (0, 0, (-2147483648), 2147483647)], some (0, (-2147483648), 2147483647), [(219, 0, 1)], [], [[]], false, 2)
theorem aet_327 : ae_CT aec_327 := ae_con_ok ae_rok_ok ae_fok_ok (fuel := 100000) (cts := []) (mcs := []) (cus := []) (sps := []) (by decide +kernel) (fun _ q => absurd q List.not_mem_nil) (fun _ q => absurd q List.not_mem_nil)
/-! LastLayerModel.netted: 11 steps -/
def aec_328 : ae_Ct := (280, [(2, 219, 0, 0)], some (0, (-2147483648), 2147483647), [(219, 0, 1)], [], [[]], false, 0)
theorem aet_328 : ae_CT aec_328 := ae_con_ok ae_rok_ok ae_fok_ok (fuel := 100000) (cts := []) (mcs := []) (cus := []) (sps := []) (by decide +kernel) (fun _ q => absurd q List.not_mem_nil) (fun _ q => absurd q List.not_mem_nil)
/-! LastLayerModel.pay: 14 steps -/
def aec_329 : ae_Ct := (281, [(2, 219, 0, 0)], some (0, (-2147483648), 2147483647), [(219, 0, 1)], [], [[]], false, 1)
theorem aet_329 : ae_CT aec_329 := ae_con_ok ae_rok_ok ae_fok_ok (fuel := 100000) (cts := [aec_320]) (mcs := []) (cus := []) (sps := []) (by decide +kernel) (ae_ctc aet_320 (fun _ q => absurd q List.not_mem_nil)) (fun _ q => absurd q List.not_mem_nil)

/-! Contracts 308 to 312 -/
/-! LastLayerModel.named: 38 steps -/
def aec_308 : ae_Ct := (253, [(2, 219, 0, 0), (0, 0, 0, 0), (0, 0, 2, 2)], some (0, (-1), 3), [], [], [[]], true, 0)
theorem aet_308 : ae_CT aec_308 := ae_con_ok ae_rok_ok ae_fok_ok (fuel := 100000) (cts := []) (mcs := []) (cus := [(253, 2, ([0, 1, 2], [(0, 3, 0, 0, false, 0, 4, 0, 4)], [], [], 0, true))]) (sps := []) (by decide +kernel) (fun _ q => absurd q List.not_mem_nil) (fun _ q => absurd q List.not_mem_nil)
/-! LastLayerModel.named: 38 steps -/
def aec_309 : ae_Ct := (253, [(2, 219, 0, 0), (0, 0, 0, 0), (0, 0, 0, 0)], some (0, (-1), 3), [], [], [[]], true, 0)
theorem aet_309 : ae_CT aec_309 := ae_con_ok ae_rok_ok ae_fok_ok (fuel := 100000) (cts := []) (mcs := []) (cus := [(253, 2, ([0, 1, 2], [(0, 3, 0, 0, false, 0, 4, 0, 4)], [], [], 0, true))]) (sps := []) (by decide +kernel) (fun _ q => absurd q List.not_mem_nil) (fun _ q => absurd q List.not_mem_nil)
/-! LastLayerModel.readStep from 132: 300 steps -/
def aec_310 : ae_Ct := (264, [(2, 219, 0, 0), (0, 0, (-2147483648), 2147483647), (0, 0, (-2147483648), 2147483647), (0, 0, 0, 0), (9, 0, 1651, 0)], none, [(219, 12, 19), (224, 1659, 1920)], [(219, 25), (219, 12)], [[(true, 0, 0, 30), (false, 0, 1, 7)], [(true, 0, 0, 30), (true, 0, 0, 0)]], false, 3)
theorem aet_310 : ae_CS 132 aec_310 := ae_suf_ok ae_rok_ok ae_fok_ok (fuel := 100000) (cts := [aec_276]) (mcs := []) (cus := []) (sps := []) (sfs := []) (by decide +kernel) (ae_ctc aet_276 (fun _ q => absurd q List.not_mem_nil)) (fun _ q => absurd q List.not_mem_nil) (fun _ q => absurd q List.not_mem_nil)
/-! LastLayerModel.named: 38 steps -/
def aec_311 : ae_Ct := (253, [(2, 219, 0, 0), (0, 0, 0, 0), (0, 0, 1, 1)], some (0, (-1), 3), [], [], [[]], true, 0)
theorem aet_311 : ae_CT aec_311 := ae_con_ok ae_rok_ok ae_fok_ok (fuel := 100000) (cts := []) (mcs := []) (cus := [(253, 2, ([0, 1, 2], [(0, 3, 0, 0, false, 0, 4, 0, 4)], [], [], 0, true))]) (sps := []) (by decide +kernel) (fun _ q => absurd q List.not_mem_nil) (fun _ q => absurd q List.not_mem_nil)
/-! LastLayerModel.readStep: 3040 steps -/
def aec_312 : ae_Ct := (264, [(2, 219, 0, 0), (0, 0, 3, 3)], none, [(219, 12, 19), (219, 25, 25), (224, 1651, 1920)], [(219, 25), (219, 12)], [[(true, 0, 0, 30), (false, 0, 1, 7)], [(true, 1, 0, 30), (true, 0, 0, 0)]], false, 7)
theorem aet_312 : ae_CT aec_312 := ae_con_oks ae_rok_ok ae_fok_ok (fuel := 100000) (cts := [aec_276, aec_288, aec_295, aec_298, aec_308, aec_309, aec_311]) (mcs := []) (cus := []) (sps := []) (sfs := [(132, aec_310)]) (by decide +kernel) (ae_ctc aet_276 (ae_ctc aet_288 (ae_ctc aet_295 (ae_ctc aet_298 (ae_ctc aet_308 (ae_ctc aet_309 (ae_ctc aet_311 (fun _ q => absurd q List.not_mem_nil)))))))) (fun _ q => absurd q List.not_mem_nil) (ae_sfc aet_310 (fun _ q => absurd q List.not_mem_nil))

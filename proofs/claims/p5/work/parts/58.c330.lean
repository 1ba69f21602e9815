/-! Contracts 330 to 330 -/
/-! LastLayerModel.share: 11368 steps -/
def aec_330 : ae_Ct := (282, [(2, 219, 0, 0)], some (0, 0, 1), [(219, 0, 3)], [], [[]], false, 2)
theorem aet_330 : ae_CT aec_330 := ae_con_ok ae_rok_ok ae_fok_ok (fuel := 100000) (cts := ae_frac1 :: ae_frac2 :: []) (mcs := []) (cus := []) (sps := []) (by decide +kernel) (ae_ctc ae_fract1 (ae_ctc ae_fract2 (fun _ q => absurd q List.not_mem_nil))) (fun _ q => absurd q List.not_mem_nil)

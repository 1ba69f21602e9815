/-! Contracts 303 to 303 -/
/-! LastLayerModel.readBoy: 3859 steps -/
def aec_303 : ae_Ct := (259, [(2, 219, 0, 0)], none, [(219, 12, 19), (224, 1543, 1543), (224, 1637, 1644), (226, 76, 79)], [(219, 16), (219, 14), (219, 12)], [[(false, 0, 0, 900), (false, 0, 0, 4), (false, 0, 1, 7)], [(true, 0, 0, 900), (false, 0, 0, 4), (true, 0, 0, 0)]], false, 6)
theorem aet_303 : ae_CT aec_303 := ae_con_ok ae_rok_ok ae_fok_ok (fuel := 100000) (cts := [aec_276, aec_289, aec_292, aec_298, aec_299, aec_300, aec_301, aec_302]) (mcs := []) (cus := []) (sps := []) (by decide +kernel) (ae_ctc aet_276 (ae_ctc aet_289 (ae_ctc aet_292 (ae_ctc aet_298 (ae_ctc aet_299 (ae_ctc aet_300 (ae_ctc aet_301 (ae_ctc aet_302 (fun _ q => absurd q List.not_mem_nil))))))))) (fun _ q => absurd q List.not_mem_nil)

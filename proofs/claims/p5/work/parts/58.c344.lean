/-! Contracts 344 to 344 -/
/-! LastLayerModel.readStep from 91: 6840 steps -/
def aec_344 : ae_Ct := (264, [(2, 219, 0, 0), (0, 0, 2, 2), (0, 0, 8, 8), (0, 0, 1, 1)], none, [(219, 12, 19), (219, 25, 25), (224, 1651, 1920)], [(219, 25), (219, 12)], [[(true, 0, 0, 30), (false, 0, 1, 7)], [(true, 1, 0, 30), (true, 0, 0, 0)]], false, 8)
theorem aet_344 : ae_CS 91 [(0, 29), (0, 0)] aec_344 := ae_suf_ok ae_rok_ok ae_fok_ok (fuel := 100000) (cts := [aec_276, aec_297, aec_299, aec_337, aec_338]) (mcs := []) (cus := []) (sps := []) (sfs := [(132, [], aec_343)]) (by decide +kernel) (ae_ctc aet_276 (ae_ctc aet_297 (ae_ctc aet_299 (ae_ctc aet_337 (ae_ctc aet_338 (fun _ q => absurd q List.not_mem_nil)))))) (fun _ q => absurd q List.not_mem_nil) (ae_sfc aet_343 (fun _ q => absurd q List.not_mem_nil))

/-! Contracts 370 to 377 -/
/-! LastLayerModel.share from 10: 526 steps -/
def aec_370 : ae_Ct := (282, [(2, 219, 0, 0)], some (0, 0, 1), [(219, 0, 0), (219, 2, 3)], [(224, 2), (224, 3)], [[(false, 0, 0, 4), (false, 0, 0, 4)]], false, 2)
theorem aet_370 : ae_CS 10 [(0, 0), (4, 4)] aec_370 := ae_suf_ok ae_rok_ok ae_fok_ok (fuel := 100000) (cts := ae_frac1 :: ae_frac2 :: []) (mcs := []) (cus := []) (sps := [(282, 5, 1, 224, 2), (282, 5, 1, 224, 3)]) (sfs := []) (by decide +kernel) (ae_ctc ae_fract1 (ae_ctc ae_fract2 (fun _ q => absurd q List.not_mem_nil))) (fun _ q => absurd q List.not_mem_nil) (fun _ q => absurd q List.not_mem_nil)
/-! LastLayerModel.share from 10: 441 steps -/
def aec_371 : ae_Ct := (282, [(2, 219, 0, 0)], some (0, 0, 1), [(219, 0, 0), (219, 2, 3)], [(224, 2), (224, 3)], [[(false, 0, 0, 4), (false, 0, 0, 4)]], false, 2)
theorem aet_371 : ae_CS 10 [(0, 0), (3, 3)] aec_371 := ae_suf_ok ae_rok_ok ae_fok_ok (fuel := 100000) (cts := ae_frac1 :: ae_frac2 :: []) (mcs := []) (cus := []) (sps := [(282, 5, 1, 224, 2), (282, 5, 1, 224, 3)]) (sfs := []) (by decide +kernel) (ae_ctc ae_fract1 (ae_ctc ae_fract2 (fun _ q => absurd q List.not_mem_nil))) (fun _ q => absurd q List.not_mem_nil) (fun _ q => absurd q List.not_mem_nil)
/-! LastLayerModel.share from 10: 356 steps -/
def aec_372 : ae_Ct := (282, [(2, 219, 0, 0)], some (0, 0, 1), [(219, 0, 0), (219, 2, 3)], [(224, 2), (224, 3)], [[(false, 0, 0, 4), (false, 0, 0, 4)]], false, 2)
theorem aet_372 : ae_CS 10 [(0, 0), (2, 2)] aec_372 := ae_suf_ok ae_rok_ok ae_fok_ok (fuel := 100000) (cts := ae_frac1 :: ae_frac2 :: []) (mcs := []) (cus := []) (sps := [(282, 5, 1, 224, 2), (282, 5, 1, 224, 3)]) (sfs := []) (by decide +kernel) (ae_ctc ae_fract1 (ae_ctc ae_fract2 (fun _ q => absurd q List.not_mem_nil))) (fun _ q => absurd q List.not_mem_nil) (fun _ q => absurd q List.not_mem_nil)
/-! LastLayerModel.share from 10: 271 steps -/
def aec_373 : ae_Ct := (282, [(2, 219, 0, 0)], some (0, 0, 1), [(219, 0, 0), (219, 2, 3)], [(224, 2), (224, 3)], [[(false, 0, 0, 4), (false, 0, 0, 4)]], false, 2)
theorem aet_373 : ae_CS 10 [(0, 0), (1, 1)] aec_373 := ae_suf_ok ae_rok_ok ae_fok_ok (fuel := 100000) (cts := ae_frac1 :: ae_frac2 :: []) (mcs := []) (cus := []) (sps := [(282, 5, 1, 224, 2), (282, 5, 1, 224, 3)]) (sfs := []) (by decide +kernel) (ae_ctc ae_fract1 (ae_ctc ae_fract2 (fun _ q => absurd q List.not_mem_nil))) (fun _ q => absurd q List.not_mem_nil) (fun _ q => absurd q List.not_mem_nil)
/-! LastLayerModel.share from 10: 526 steps -/
def aec_374 : ae_Ct := (282, [(2, 219, 0, 0)], some (0, 0, 1), [(219, 0, 0), (219, 2, 3)], [(224, 2), (224, 3)], [[(false, 0, 0, 4), (false, 0, 0, 4)]], false, 2)
theorem aet_374 : ae_CS 10 [(4, 4), (0, 0)] aec_374 := ae_suf_ok ae_rok_ok ae_fok_ok (fuel := 100000) (cts := ae_frac1 :: ae_frac2 :: []) (mcs := []) (cus := []) (sps := [(282, 5, 1, 224, 2), (282, 5, 1, 224, 3)]) (sfs := []) (by decide +kernel) (ae_ctc ae_fract1 (ae_ctc ae_fract2 (fun _ q => absurd q List.not_mem_nil))) (fun _ q => absurd q List.not_mem_nil) (fun _ q => absurd q List.not_mem_nil)
/-! LastLayerModel.share from 10: 866 steps -/
def aec_375 : ae_Ct := (282, [(2, 219, 0, 0)], some (0, 0, 1), [(219, 0, 0), (219, 2, 3)], [(224, 2), (224, 3)], [[(false, 0, 0, 4), (false, 0, 0, 4)]], false, 2)
theorem aet_375 : ae_CS 10 [(4, 4), (4, 4)] aec_375 := ae_suf_ok ae_rok_ok ae_fok_ok (fuel := 100000) (cts := ae_frac1 :: ae_frac2 :: []) (mcs := []) (cus := []) (sps := [(282, 5, 1, 224, 2), (282, 5, 1, 224, 3)]) (sfs := []) (by decide +kernel) (ae_ctc ae_fract1 (ae_ctc ae_fract2 (fun _ q => absurd q List.not_mem_nil))) (fun _ q => absurd q List.not_mem_nil) (fun _ q => absurd q List.not_mem_nil)
/-! LastLayerModel.share from 10: 781 steps -/
def aec_376 : ae_Ct := (282, [(2, 219, 0, 0)], some (0, 0, 1), [(219, 0, 0), (219, 2, 3)], [(224, 2), (224, 3)], [[(false, 0, 0, 4), (false, 0, 0, 4)]], false, 2)
theorem aet_376 : ae_CS 10 [(4, 4), (3, 3)] aec_376 := ae_suf_ok ae_rok_ok ae_fok_ok (fuel := 100000) (cts := ae_frac1 :: ae_frac2 :: []) (mcs := []) (cus := []) (sps := [(282, 5, 1, 224, 2), (282, 5, 1, 224, 3)]) (sfs := []) (by decide +kernel) (ae_ctc ae_fract1 (ae_ctc ae_fract2 (fun _ q => absurd q List.not_mem_nil))) (fun _ q => absurd q List.not_mem_nil) (fun _ q => absurd q List.not_mem_nil)
/-! LastLayerModel.share from 10: 696 steps -/
def aec_377 : ae_Ct := (282, [(2, 219, 0, 0)], some (0, 0, 1), [(219, 0, 0), (219, 2, 3)], [(224, 2), (224, 3)], [[(false, 0, 0, 4), (false, 0, 0, 4)]], false, 2)
theorem aet_377 : ae_CS 10 [(4, 4), (2, 2)] aec_377 := ae_suf_ok ae_rok_ok ae_fok_ok (fuel := 100000) (cts := ae_frac1 :: ae_frac2 :: []) (mcs := []) (cus := []) (sps := [(282, 5, 1, 224, 2), (282, 5, 1, 224, 3)]) (sfs := []) (by decide +kernel) (ae_ctc ae_fract1 (ae_ctc ae_fract2 (fun _ q => absurd q List.not_mem_nil))) (fun _ q => absurd q List.not_mem_nil) (fun _ q => absurd q List.not_mem_nil)

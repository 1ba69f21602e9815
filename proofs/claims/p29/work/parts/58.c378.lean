/-! Contracts 378 to 385 -/
/-! LastLayerModel.share from 10: 611 steps -/
def aec_378 : ae_Ct := (282, [(2, 219, 0, 0)], some (0, 0, 1), [(219, 0, 0), (219, 2, 3)], [(224, 2), (224, 3)], [[(false, 0, 0, 4), (false, 0, 0, 4)]], false, 2)
theorem aet_378 : ae_CS 10 [(4, 4), (1, 1)] aec_378 := ae_suf_ok ae_rok_ok ae_fok_ok (fuel := 100000) (cts := ae_frac1 :: ae_frac2 :: []) (mcs := []) (cus := []) (sps := [(282, 5, 1, 224, 2), (282, 5, 1, 224, 3)]) (sfs := []) (by decide +kernel) (ae_ctc ae_fract1 (ae_ctc ae_fract2 (fun _ q => absurd q List.not_mem_nil))) (fun _ q => absurd q List.not_mem_nil) (fun _ q => absurd q List.not_mem_nil)
/-! LastLayerModel.share from 10: 441 steps -/
def aec_379 : ae_Ct := (282, [(2, 219, 0, 0)], some (0, 0, 1), [(219, 0, 0), (219, 2, 3)], [(224, 2), (224, 3)], [[(false, 0, 0, 4), (false, 0, 0, 4)]], false, 2)
theorem aet_379 : ae_CS 10 [(3, 3), (0, 0)] aec_379 := ae_suf_ok ae_rok_ok ae_fok_ok (fuel := 100000) (cts := ae_frac1 :: ae_frac2 :: []) (mcs := []) (cus := []) (sps := [(282, 5, 1, 224, 2), (282, 5, 1, 224, 3)]) (sfs := []) (by decide +kernel) (ae_ctc ae_fract1 (ae_ctc ae_fract2 (fun _ q => absurd q List.not_mem_nil))) (fun _ q => absurd q List.not_mem_nil) (fun _ q => absurd q List.not_mem_nil)
/-! LastLayerModel.share from 10: 781 steps -/
def aec_380 : ae_Ct := (282, [(2, 219, 0, 0)], some (0, 0, 1), [(219, 0, 0), (219, 2, 3)], [(224, 2), (224, 3)], [[(false, 0, 0, 4), (false, 0, 0, 4)]], false, 2)
theorem aet_380 : ae_CS 10 [(3, 3), (4, 4)] aec_380 := ae_suf_ok ae_rok_ok ae_fok_ok (fuel := 100000) (cts := ae_frac1 :: ae_frac2 :: []) (mcs := []) (cus := []) (sps := [(282, 5, 1, 224, 2), (282, 5, 1, 224, 3)]) (sfs := []) (by decide +kernel) (ae_ctc ae_fract1 (ae_ctc ae_fract2 (fun _ q => absurd q List.not_mem_nil))) (fun _ q => absurd q List.not_mem_nil) (fun _ q => absurd q List.not_mem_nil)
/-! LastLayerModel.share from 10: 696 steps -/
def aec_381 : ae_Ct := (282, [(2, 219, 0, 0)], some (0, 0, 1), [(219, 0, 0), (219, 2, 3)], [(224, 2), (224, 3)], [[(false, 0, 0, 4), (false, 0, 0, 4)]], false, 2)
theorem aet_381 : ae_CS 10 [(3, 3), (3, 3)] aec_381 := ae_suf_ok ae_rok_ok ae_fok_ok (fuel := 100000) (cts := ae_frac1 :: ae_frac2 :: []) (mcs := []) (cus := []) (sps := [(282, 5, 1, 224, 2), (282, 5, 1, 224, 3)]) (sfs := []) (by decide +kernel) (ae_ctc ae_fract1 (ae_ctc ae_fract2 (fun _ q => absurd q List.not_mem_nil))) (fun _ q => absurd q List.not_mem_nil) (fun _ q => absurd q List.not_mem_nil)
/-! LastLayerModel.share from 10: 611 steps -/
def aec_382 : ae_Ct := (282, [(2, 219, 0, 0)], some (0, 0, 1), [(219, 0, 0), (219, 2, 3)], [(224, 2), (224, 3)], [[(false, 0, 0, 4), (false, 0, 0, 4)]], false, 2)
theorem aet_382 : ae_CS 10 [(3, 3), (2, 2)] aec_382 := ae_suf_ok ae_rok_ok ae_fok_ok (fuel := 100000) (cts := ae_frac1 :: ae_frac2 :: []) (mcs := []) (cus := []) (sps := [(282, 5, 1, 224, 2), (282, 5, 1, 224, 3)]) (sfs := []) (by decide +kernel) (ae_ctc ae_fract1 (ae_ctc ae_fract2 (fun _ q => absurd q List.not_mem_nil))) (fun _ q => absurd q List.not_mem_nil) (fun _ q => absurd q List.not_mem_nil)
/-! LastLayerModel.share from 10: 526 steps -/
def aec_383 : ae_Ct := (282, [(2, 219, 0, 0)], some (0, 0, 1), [(219, 0, 0), (219, 2, 3)], [(224, 2), (224, 3)], [[(false, 0, 0, 4), (false, 0, 0, 4)]], false, 2)
theorem aet_383 : ae_CS 10 [(3, 3), (1, 1)] aec_383 := ae_suf_ok ae_rok_ok ae_fok_ok (fuel := 100000) (cts := ae_frac1 :: ae_frac2 :: []) (mcs := []) (cus := []) (sps := [(282, 5, 1, 224, 2), (282, 5, 1, 224, 3)]) (sfs := []) (by decide +kernel) (ae_ctc ae_fract1 (ae_ctc ae_fract2 (fun _ q => absurd q List.not_mem_nil))) (fun _ q => absurd q List.not_mem_nil) (fun _ q => absurd q List.not_mem_nil)
/-! LastLayerModel.share from 10: 356 steps -/
def aec_384 : ae_Ct := (282, [(2, 219, 0, 0)], some (0, 0, 1), [(219, 0, 0), (219, 2, 3)], [(224, 2), (224, 3)], [[(false, 0, 0, 4), (false, 0, 0, 4)]], false, 2)
theorem aet_384 : ae_CS 10 [(2, 2), (0, 0)] aec_384 := ae_suf_ok ae_rok_ok ae_fok_ok (fuel := 100000) (cts := ae_frac1 :: ae_frac2 :: []) (mcs := []) (cus := []) (sps := [(282, 5, 1, 224, 2), (282, 5, 1, 224, 3)]) (sfs := []) (by decide +kernel) (ae_ctc ae_fract1 (ae_ctc ae_fract2 (fun _ q => absurd q List.not_mem_nil))) (fun _ q => absurd q List.not_mem_nil) (fun _ q => absurd q List.not_mem_nil)
/-! LastLayerModel.share from 10: 696 steps -/
def aec_385 : ae_Ct := (282, [(2, 219, 0, 0)], some (0, 0, 1), [(219, 0, 0), (219, 2, 3)], [(224, 2), (224, 3)], [[(false, 0, 0, 4), (false, 0, 0, 4)]], false, 2)
theorem aet_385 : ae_CS 10 [(2, 2), (4, 4)] aec_385 := ae_suf_ok ae_rok_ok ae_fok_ok (fuel := 100000) (cts := ae_frac1 :: ae_frac2 :: []) (mcs := []) (cus := []) (sps := [(282, 5, 1, 224, 2), (282, 5, 1, 224, 3)]) (sfs := []) (by decide +kernel) (ae_ctc ae_fract1 (ae_ctc ae_fract2 (fun _ q => absurd q List.not_mem_nil))) (fun _ q => absurd q List.not_mem_nil) (fun _ q => absurd q List.not_mem_nil)

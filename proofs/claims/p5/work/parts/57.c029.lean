/-! Contracts 29 to 33 -/
/-! Yard.rickNamed: 60 steps -/
def aec_29 : ae_Ct := (94, [(2, 41, 0, 0), (1, 0, (-9223372036854775808), 9223372036854775807)], some (0, (-1), 3), [], [], [[]], false, 0)
theorem aet_29 : ae_CT aec_29 := ae_con_ok ae_rok_ok ae_fok_ok (fuel := 100000) (cts := []) (mcs := []) (cus := [(94, 2, ([0, 1], [(0, 3, 0, 0, false, 0, 4, 0, 4)], [], [], 0, true))]) (sps := []) (by decide +kernel) (fun _ q => absurd q List.not_mem_nil) (fun _ q => absurd q List.not_mem_nil)
/-! Yard.sideNamed: 60 steps -/
def aec_30 : ae_Ct := (95, [(2, 41, 0, 0), (1, 0, (-9223372036854775808), 9223372036854775807)], some (0, (-1), 3), [], [], [[]], false, 0)
theorem aet_30 : ae_CT aec_30 := ae_con_ok ae_rok_ok ae_fok_ok (fuel := 100000) (cts := []) (mcs := []) (cus := [(95, 2, ([0, 1], [(0, 3, 0, 0, false, 0, 4, 0, 4)], [], [], 0, true))]) (sps := []) (by decide +kernel) (fun _ q => absurd q List.not_mem_nil) (fun _ q => absurd q List.not_mem_nil)
/-! Yard.dogNamed: 60 steps -/
def aec_31 : ae_Ct := (96, [(2, 41, 0, 0), (1, 0, (-9223372036854775808), 9223372036854775807)], some (0, (-1), 3), [], [], [[]], false, 0)
theorem aet_31 : ae_CT aec_31 := ae_con_ok ae_rok_ok ae_fok_ok (fuel := 100000) (cts := []) (mcs := []) (cus := [(96, 2, ([0, 1], [(0, 3, 0, 0, false, 0, 4, 0, 4)], [], [], 0, true))]) (sps := []) (by decide +kernel) (fun _ q => absurd q List.not_mem_nil) (fun _ q => absurd q List.not_mem_nil)
/-! Yard.boyNamed: 60 steps -/
def aec_32 : ae_Ct := (97, [(2, 41, 0, 0), (1, 0, (-9223372036854775808), 9223372036854775807)], some (0, (-1), 3), [], [], [[]], false, 0)
theorem aet_32 : ae_CT aec_32 := ae_con_ok ae_rok_ok ae_fok_ok (fuel := 100000) (cts := []) (mcs := []) (cus := [(97, 2, ([0, 1], [(0, 3, 0, 0, false, 0, 4, 0, 4)], [], [], 0, true))]) (sps := []) (by decide +kernel) (fun _ q => absurd q List.not_mem_nil) (fun _ q => absurd q List.not_mem_nil)
/-! YardReader.readBoy: 13901 steps -/
def aec_33 : ae_Ct := (126, [(2, 40, 0, 0)], some (0, 0, 1), [(3, 5, 5), (3, 9, 16), (41, 8, 8), (51, 0, 5), (56, 0, 5), (61, 0, 5), (66, 0, 5)], [], [[]], false, 4)
theorem aet_33 : ae_CT aec_33 := ae_con_ok ae_rok_ok ae_fok_ok (fuel := 100000) (cts := [aec_26, aec_29, aec_30, aec_31, aec_32]) (mcs := []) (cus := []) (sps := []) (by decide +kernel) (ae_ctc aet_26 (ae_ctc aet_29 (ae_ctc aet_30 (ae_ctc aet_31 (ae_ctc aet_32 (fun _ q => absurd q List.not_mem_nil)))))) (fun _ q => absurd q List.not_mem_nil)

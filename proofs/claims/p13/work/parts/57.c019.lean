/-! Contracts 19 to 23 -/
/-! LastLayer.pour: 4080 steps -/
noncomputable def aec_19 : ae_Ct := (143, [(2, 1, 0, 0), (0, 0, (-2147483648), 2147483647), (0, 0, (-2147483648), 2147483647), (0, 0, (-2147483648), 2147483647), (0, 0, (-2147483648), 2147483647), (0, 0, (-2147483648), 2147483647)], some (0, 0, 1), [(1, 12, 12), (116, 0, 59), (118, 0, 59), (120, 0, 59), (122, 0, 59)], [], [[]], false, 2)
theorem aet_19 : ae_CT aec_19 := ae_con_ok ae_rok_ok ae_fok_ok (fuel := 100000) (cts := []) (mcs := []) (cus := []) (sps := []) (af_kc (by decide +kernel)) (fun _ q => absurd q List.not_mem_nil) (fun _ q => absurd q List.not_mem_nil)
/-! Tape.addFour: 30 steps -/
/-! LastLayer.feed: 42 steps -/
/-! Tape.cutNumber: 377 steps -/
noncomputable def aec_22 : ae_Ct := (57, [(2, 3, 0, 0)], some (0, 0, 1), [(3, 4, 4), (3, 7, 7), (5, 0, 900), (6, 0, 900), (7, 0, 900)], [], [[]], false, 1)
theorem aet_22 : ae_CT aec_22 := ae_con_ok ae_rok_ok ae_fok_ok (fuel := 100000) (cts := []) (mcs := []) (cus := [(57, 7, ([0, 1], [(0, 2, 0, 0, false, (-2147483648), 2147483647, (-2147483648), 2147483647), (1, 3, 7, 0, false, 0, 900, 0, 900)], [(3, 7, 7)], [], 1, true))]) (sps := []) (af_kc (by decide +kernel)) (fun _ q => absurd q List.not_mem_nil) (fun _ q => absurd q List.not_mem_nil)
/-! Tape.wordNumber: 215 steps -/
noncomputable def aec_23 : ae_Ct := (56, [(2, 3, 0, 0), (0, 0, (-2147483648), 2147483647)], some (0, (-2147483648), 2147483647), [], [], [[]], false, 1)
theorem aet_23 : ae_CT aec_23 := ae_con_ok ae_rok_ok ae_fok_ok (fuel := 100000) (cts := []) (mcs := []) (cus := [(56, 10, ([0, 1], [(0, 2, 0, 0, false, (-2147483648), 2147483647, (-2147483648), 2147483647), (0, 3, 0, 0, false, (-2147483648), 2147483647, (-2147483648), 2147483647), (0, 4, 0, 0, false, 0, 1, 0, 1), (0, 5, 0, 0, false, 0, 239, 0, 239)], [], [], 3, true))]) (sps := []) (af_kc (by decide +kernel)) (fun _ q => absurd q List.not_mem_nil) (fun _ q => absurd q List.not_mem_nil)

/-! Contracts 1 to 10 -/
/-! LastLayer.good: 5 steps -/
def aec_1 : ae_Ct := (129, [(2, 1, 0, 0), (0, 0, (-2147483648), 2147483647)], some (0, (-2147483648), 2147483647), [(1, 12, 12)], [], [[]], false, 0)
theorem aet_1 : ae_CT aec_1 := ae_con_ok ae_rok_ok ae_fok_ok (fuel := 100000) (cts := []) (mcs := []) (cus := []) (sps := []) (by decide +kernel) (fun _ q => absurd q List.not_mem_nil) (fun _ q => absurd q List.not_mem_nil)
/-! LastLayer.bad: 5 steps -/
def aec_2 : ae_Ct := (130, [(2, 1, 0, 0), (0, 0, (-2147483648), 2147483647)], some (0, (-1), (-1)), [(1, 12, 12)], [], [[]], false, 0)
theorem aet_2 : ae_CT aec_2 := ae_con_ok ae_rok_ok ae_fok_ok (fuel := 100000) (cts := []) (mcs := []) (cus := []) (sps := []) (by decide +kernel) (fun _ q => absurd q List.not_mem_nil) (fun _ q => absurd q List.not_mem_nil)
/-! LastLayer.did: 5 steps -/
def aec_3 : ae_Ct := (131, [(2, 1, 0, 0)], some (0, 1, 1), [(1, 12, 12)], [], [[]], false, 0)
theorem aet_3 : ae_CT aec_3 := ae_con_ok ae_rok_ok ae_fok_ok (fuel := 100000) (cts := []) (mcs := []) (cus := []) (sps := []) (by decide +kernel) (fun _ q => absurd q List.not_mem_nil) (fun _ q => absurd q List.not_mem_nil)
/-! LastLayer.didNot: 5 steps -/
def aec_4 : ae_Ct := (132, [(2, 1, 0, 0), (0, 0, (-2147483648), 2147483647)], some (0, 0, 0), [(1, 12, 12)], [], [[]], false, 0)
theorem aet_4 : ae_CT aec_4 := ae_con_ok ae_rok_ok ae_fok_ok (fuel := 100000) (cts := []) (mcs := []) (cus := []) (sps := []) (by decide +kernel) (fun _ q => absurd q List.not_mem_nil) (fun _ q => absurd q List.not_mem_nil)
/-! LastLayer.isTray: 12 steps -/
def aec_5 : ae_Ct := (133, [(2, 1, 0, 0), (0, 0, (-2147483648), 2147483647)], some (0, 0, 1), [], [], [[]], false, 0)
theorem aet_5 : ae_CT aec_5 := ae_con_ok ae_rok_ok ae_fok_ok (fuel := 100000) (cts := []) (mcs := []) (cus := []) (sps := []) (by decide +kernel) (fun _ q => absurd q List.not_mem_nil) (fun _ q => absurd q List.not_mem_nil)
/-! LastLayer.isBetween: 13 steps -/
def aec_6 : ae_Ct := (134, [(2, 1, 0, 0), (0, 0, (-2147483648), 2147483647), (0, 0, (-2147483648), 2147483647), (0, 0, (-2147483648), 2147483647)], some (0, 0, 1), [], [], [[]], false, 0)
theorem aet_6 : ae_CT aec_6 := ae_con_ok ae_rok_ok ae_fok_ok (fuel := 100000) (cts := []) (mcs := []) (cus := []) (sps := []) (by decide +kernel) (fun _ q => absurd q List.not_mem_nil) (fun _ q => absurd q List.not_mem_nil)
/-! LastLayer.tellFraction: 67 steps -/
def aec_7 : ae_Ct := (135, [(2, 1, 0, 0), (1, 0, (-9223372036854775808), 9223372036854775807), (1, 0, (-9223372036854775808), 9223372036854775807)], none, [(1, 13, 14)], [], [[]], false, 0)
theorem aet_7 : ae_CT aec_7 := ae_con_ok ae_rok_ok ae_fok_ok (fuel := 100000) (cts := []) (mcs := []) (cus := [(135, 9, ([0, 1, 3], [(0, 5, 0, 1, false, (-9223372036854775808), 9223372036854775807, (-9223372036854775808), 9223372036854775807), (0, 7, 0, 1, false, (-9223372036854775808), 9223372036854775807, (-9223372036854775808), 9223372036854775807), (0, 9, 0, 0, false, 0, 100, 0, 100)], [], [], 2, true))]) (sps := []) (by decide +kernel) (fun _ q => absurd q List.not_mem_nil) (fun _ q => absurd q List.not_mem_nil)
/-! LastLayer.status: 3 steps -/
def aec_8 : ae_Ct := (136, [(2, 1, 0, 0)], some (0, (-2147483648), 2147483647), [], [], [[]], false, 0)
theorem aet_8 : ae_CT aec_8 := ae_con_ok ae_rok_ok ae_fok_ok (fuel := 100000) (cts := []) (mcs := []) (cus := []) (sps := []) (by decide +kernel) (fun _ q => absurd q List.not_mem_nil) (fun _ q => absurd q List.not_mem_nil)
/-! LastLayer.top: 3 steps -/
def aec_9 : ae_Ct := (137, [(2, 1, 0, 0)], some (1, (-9223372036854775808), 9223372036854775807), [], [], [[]], false, 0)
theorem aet_9 : ae_CT aec_9 := ae_con_ok ae_rok_ok ae_fok_ok (fuel := 100000) (cts := []) (mcs := []) (cus := []) (sps := []) (by decide +kernel) (fun _ q => absurd q List.not_mem_nil) (fun _ q => absurd q List.not_mem_nil)
/-! LastLayer.bottom: 3 steps -/
def aec_10 : ae_Ct := (138, [(2, 1, 0, 0)], some (1, (-9223372036854775808), 9223372036854775807), [], [], [[]], false, 0)
theorem aet_10 : ae_CT aec_10 := ae_con_ok ae_rok_ok ae_fok_ok (fuel := 100000) (cts := []) (mcs := []) (cus := []) (sps := []) (by decide +kernel) (fun _ q => absurd q List.not_mem_nil) (fun _ q => absurd q List.not_mem_nil)

/-! Contracts 63 to 81 -/
/-! DaysReader.readStep: 2033 steps -/
/-! DaysReader.readText: 258 steps -/
/-! Days.copyFrom: 49 steps -/
/-! LastLayer.days: 74 steps -/
/-! LastLayer.fault: 21 steps -/
noncomputable def aec_67 : ae_Ct := (147, [(2, 1, 0, 0), (0, 0, (-2147483648), 2147483647)], some (0, (-2147483648), 2147483647), [], [], [[]], false, 0)
theorem aet_67 : ae_CT aec_67 := ae_con_ok ae_rok_ok ae_fok_ok (fuel := 100000) (cts := []) (mcs := []) (cus := []) (sps := []) (af_kc (by decide +kernel)) (fun _ q => absurd q List.not_mem_nil) (fun _ q => absurd q List.not_mem_nil)
/-! Yard.tailsOfAll: 74 steps -/
noncomputable def aec_68 : ae_Ct := (99, [(2, 8, 0, 0)], some (0, (-2147483648), 2147483647), [], [], [[]], false, 0)
theorem aet_68 : ae_CT aec_68 := ae_con_ok ae_rok_ok ae_fok_ok (fuel := 100000) (cts := []) (mcs := []) (cus := [(99, 4, ([0], [(0, 1, 0, 0, false, (-2147483648), 2147483647, (-2147483648), 2147483647), (0, 2, 0, 0, false, 0, 4, 0, 4)], [], [], 1, true)), (99, 32, ([0], [(0, 1, 0, 0, false, (-2147483648), 2147483647, (-2147483648), 2147483647), (0, 2, 0, 0, false, 0, 4, 0, 4)], [], [], 1, true))]) (sps := []) (af_kc (by decide +kernel)) (fun _ q => absurd q List.not_mem_nil) (fun _ q => absurd q List.not_mem_nil)
/-! LastLayer.many: 172 steps -/
/-! Rick.ratsInAll: 21 steps -/
/-! Rick.ratsInAll: 21 steps -/
/-! Rick.ratsInAll: 21 steps -/
/-! Rick.ratsInAll: 21 steps -/
/-! LastLayer.rick: 278 steps -/
/-! LastLayer.layer: 339 steps -/
/-! LastLayer.side: 325 steps -/
/-! LastLayer.dog: 210 steps -/
/-! LastLayer.boy: 172 steps -/
/-! LastLayer.netted: 11 steps -/
/-! LastLayer.pay: 15 steps -/
noncomputable def aec_80 : ae_Ct := (155, [(2, 1, 0, 0)], some (0, (-2147483648), 2147483647), [(1, 12, 12)], [], [[]], false, 1)
theorem aet_80 : ae_CT aec_80 := ae_con_ok ae_rok_ok ae_fok_ok (fuel := 100000) (cts := [aec_68]) (mcs := []) (cus := []) (sps := []) (af_kc (by decide +kernel)) (ae_ctc aet_68 (fun _ q => absurd q List.not_mem_nil)) (fun _ q => absurd q List.not_mem_nil)
/-! LastLayer.share: 41 steps -/
noncomputable def aec_81 : ae_Ct := (156, [(2, 1, 0, 0)], some (0, 0, 1), [(1, 12, 14)], [], [[]], false, 2)
theorem aet_81 : ae_CT aec_81 := ae_con_ok ae_rok_ok ae_fok_ok (fuel := 100000) (cts := [aec_7, aec_68]) (mcs := []) (cus := []) (sps := []) (af_kc (by decide +kernel)) (ae_ctc aet_7 (ae_ctc aet_68 (fun _ q => absurd q List.not_mem_nil))) (fun _ q => absurd q List.not_mem_nil)

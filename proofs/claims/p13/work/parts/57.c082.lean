/-! Contracts 82 to 86 -/
/-! LastLayer.copyLayers: 2452 steps -/
noncomputable def aec_82 : ae_Ct := (157, [(2, 1, 0, 0), (0, 0, (-2147483648), 2147483647), (0, 0, (-2147483648), 2147483647)], some (0, (-8), 8), [(1, 12, 12), (116, 0, 7), (118, 0, 7), (120, 0, 7), (122, 0, 7)], [], [[]], false, 2)
theorem aet_82 : ae_CT aec_82 := ae_con_ok ae_rok_ok ae_fok_ok (fuel := 100000) (cts := []) (mcs := []) (cus := [(157, 84, ([0, 1, 2, 3], [(0, 4, 0, 0, false, 0, 8, 0, 8)], [(116, 0, 7), (118, 0, 7), (120, 0, 7), (122, 0, 7)], [], 0, true))]) (sps := []) (af_kc (by decide +kernel)) (fun _ q => absurd q List.not_mem_nil) (fun _ q => absurd q List.not_mem_nil)
/-! LastLayer.take: 323 steps -/
/-! Rick.dropUpper: 49 steps -/
/-! Yard.spread: 201 steps -/
noncomputable def aec_85 : ae_Ct := (103, [(2, 8, 0, 0), (0, 0, (-2147483648), 2147483647)], some (0, 0, 1), [(13, 0, 3)], [], [[]], false, 0)
theorem aet_85 : ae_CT aec_85 := ae_con_ok ae_rok_ok ae_fok_ok (fuel := 100000) (cts := []) (mcs := []) (cus := [(103, 4, ([0, 1], [(0, 2, 0, 0, false, (-2147483648), 2147483647, (-2147483648), 2147483647), (0, 3, 0, 0, false, 0, 4, 0, 4)], [], [], 1, true)), (103, 41, ([0, 1, 2], [(0, 3, 0, 0, false, (-2147483648), 2147483647, (-2147483648), 2147483647), (0, 4, 0, 0, false, 0, 4, 0, 4)], [(13, 0, 3)], [], 1, true)), (103, 90, ([0, 1, 2], [(0, 3, 0, 0, false, (-2147483648), 2147483647, (-2147483648), 2147483647), (0, 4, 0, 0, false, 0, 4, 0, 4)], [(13, 0, 3)], [], 1, true))]) (sps := []) (af_kc (by decide +kernel)) (fun _ q => absurd q List.not_mem_nil) (fun _ q => absurd q List.not_mem_nil)
/-! Yard.passGap: 1041 steps -/

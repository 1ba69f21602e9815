/-! Contracts 102 to 122 -/
/-! LastLayer.setNet: 264 steps -/
/-! LastLayer.net: 206 steps -/
/-! LastLayer.gap: 206 steps -/
/-! LastLayer.move: 121 steps -/
/-! LastLayer.send: 121 steps -/
/-! LastLayer.lean: 122 steps -/
/-! Yard.tiredSet: 114 steps -/
/-! java/lang/Integer.bitCount: 42 steps -/
noncomputable def aec_109 : ae_Ct := (353, [(0, 0, (-2147483648), 2147483647)], some (0, 0, 63), [], [], [[]], false, 0)
theorem aet_109 : ae_CT aec_109 := ae_con_ok ae_rok_ok ae_fok_ok (fuel := 100000) (cts := []) (mcs := []) (cus := []) (sps := []) (af_kc (by decide +kernel)) (fun _ q => absurd q List.not_mem_nil) (fun _ q => absurd q List.not_mem_nil)
/-! LastLayer.rest: 46 steps -/
/-! Rick.grow: 44 steps -/
/-! Rick.grow: 44 steps -/
/-! Rick.grow: 44 steps -/
/-! Rick.grow: 44 steps -/
/-! Yard.passWeeks: 387 steps -/
/-! Yard.ratsInAll: 39 steps -/
/-! LastLayer.week: 54 steps -/
/-! LastLayer.toSide: 122 steps -/
noncomputable def aec_118 : ae_Ct := (169, [(2, 1, 0, 0), (0, 0, (-2147483648), 2147483647), (0, 0, (-2147483648), 2147483647)], some (0, (-2147483648), 2147483647), [(1, 12, 12), (13, 0, 3)], [], [[]], false, 2)
theorem aet_118 : ae_CT aec_118 := ae_con_ok ae_rok_ok ae_fok_ok (fuel := 100000) (cts := [aec_85]) (mcs := []) (cus := []) (sps := []) (af_kc (by decide +kernel)) (ae_ctc aet_85 (fun _ q => absurd q List.not_mem_nil)) (fun _ q => absurd q List.not_mem_nil)
/-! Yard.copyFrom: 621 steps -/
noncomputable def aec_119 : ae_Ct := (89, [(2, 76, 0, 0), (2, 8, 0, 0)], none, [(76, 5, 17), (82, 0, 2), (82, 4, 5), (83, 0, 7), (84, 0, 4), (85, 0, 5), (86, 0, 5), (87, 0, 2), (87, 4, 5), (88, 0, 7), (89, 0, 4), (90, 0, 5), (91, 0, 5), (92, 0, 2), (92, 4, 5), (93, 0, 7), (94, 0, 4), (95, 0, 5), (96, 0, 5), (97, 0, 2), (97, 4, 5), (98, 0, 7), (99, 0, 4), (100, 0, 5), (101, 0, 5)], [], [[]], false, 2)
theorem aet_119 : ae_CT aec_119 := ae_con_ok ae_rok_ok ae_fok_ok (fuel := 100000) (cts := []) (mcs := []) (cus := [(89, 106, ([0, 1], [(0, 2, 0, 0, false, 0, 4, 0, 4)], [(82, 0, 2), (82, 4, 5), (83, 0, 7), (87, 0, 2), (87, 4, 5), (88, 0, 7), (92, 0, 2), (92, 4, 5), (93, 0, 7), (97, 0, 2), (97, 4, 5), (98, 0, 7)], [], 0, true)), (89, 137, ([0, 1], [(0, 2, 0, 0, false, 0, 4, 0, 4)], [(84, 0, 4), (89, 0, 4), (94, 0, 4), (99, 0, 4)], [], 0, true)), (89, 168, ([0, 1], [(0, 2, 0, 0, false, 0, 4, 0, 4)], [(85, 0, 5), (90, 0, 5), (95, 0, 5), (100, 0, 5)], [], 0, true)), (89, 199, ([0, 1], [(0, 2, 0, 0, false, 0, 4, 0, 4)], [(86, 0, 5), (91, 0, 5), (96, 0, 5), (101, 0, 5)], [], 0, true))]) (sps := []) (af_kc (by decide +kernel)) (fun _ q => absurd q List.not_mem_nil) (fun _ q => absurd q List.not_mem_nil)
/-! Yard.spread: 201 steps -/
noncomputable def aec_120 : ae_Ct := (103, [(2, 76, 0, 0), (0, 0, (-2147483648), 2147483647)], some (0, 0, 1), [(81, 0, 3)], [], [[]], false, 0)
theorem aet_120 : ae_CT aec_120 := ae_con_ok ae_rok_ok ae_fok_ok (fuel := 100000) (cts := []) (mcs := []) (cus := [(103, 4, ([0, 1], [(0, 2, 0, 0, false, (-2147483648), 2147483647, (-2147483648), 2147483647), (0, 3, 0, 0, false, 0, 4, 0, 4)], [], [], 1, true)), (103, 41, ([0, 1, 2], [(0, 3, 0, 0, false, (-2147483648), 2147483647, (-2147483648), 2147483647), (0, 4, 0, 0, false, 0, 4, 0, 4)], [(81, 0, 3)], [], 1, true)), (103, 90, ([0, 1, 2], [(0, 3, 0, 0, false, (-2147483648), 2147483647, (-2147483648), 2147483647), (0, 4, 0, 0, false, 0, 4, 0, 4)], [(81, 0, 3)], [], 1, true))]) (sps := []) (af_kc (by decide +kernel)) (fun _ q => absurd q List.not_mem_nil) (fun _ q => absurd q List.not_mem_nil)
/-! Yard.passGap: 1041 steps -/
noncomputable def aec_121 : ae_Ct := (108, [(2, 76, 0, 0), (0, 0, 0, 0), (0, 0, (-2147483648), 2147483647)], none, [(76, 15, 15), (83, 0, 7), (84, 4, 4), (85, 4, 5), (86, 4, 5), (88, 0, 7), (90, 4, 5), (91, 4, 5), (93, 0, 7), (95, 4, 5), (96, 4, 5), (98, 0, 7), (100, 4, 5), (101, 4, 5)], [], [[]], false, 1)
theorem aet_121 : ae_CT aec_121 := ae_con_ok ae_rok_ok ae_fok_ok (fuel := 100000) (cts := []) (mcs := []) (cus := [(108, 10, ([0, 1, 2], [(0, 3, 0, 0, false, (-2147483648), 2147483647, (-2147483648), 2147483647), (0, 4, 0, 0, false, 0, 4, 0, 4)], [], [], 1, true)), (108, 48, ([0, 1, 2, 3], [(0, 4, 0, 0, false, 0, 2147483647, 0, 2147483647), (0, 5, 0, 0, false, 0, 4, 0, 4)], [(85, 4, 5), (90, 4, 5), (95, 4, 5), (100, 4, 5)], [], 1, true)), (108, 137, ([0, 1, 2, 3], [(0, 4, 0, 0, false, 0, 2147483647, 0, 2147483647), (0, 5, 0, 0, false, 0, 4, 0, 4)], [(86, 4, 5), (91, 4, 5), (96, 4, 5), (101, 4, 5)], [], 1, true))]) (sps := []) (af_kc (by decide +kernel)) (fun _ q => absurd q List.not_mem_nil) (fun _ q => absurd q List.not_mem_nil)
/-! Yard.passGap: 1041 steps -/
noncomputable def aec_122 : ae_Ct := (108, [(2, 76, 0, 0), (0, 0, 3, 3), (0, 0, (-2147483648), 2147483647)], none, [(76, 15, 15), (83, 0, 7), (85, 4, 5), (86, 4, 5), (88, 0, 7), (90, 4, 5), (91, 4, 5), (93, 0, 7), (95, 4, 5), (96, 4, 5), (98, 0, 7), (99, 4, 4), (100, 4, 5), (101, 4, 5)], [], [[]], false, 1)
theorem aet_122 : ae_CT aec_122 := ae_con_ok ae_rok_ok ae_fok_ok (fuel := 100000) (cts := []) (mcs := []) (cus := [(108, 10, ([0, 1, 2], [(0, 3, 0, 0, false, (-2147483648), 2147483647, (-2147483648), 2147483647), (0, 4, 0, 0, false, 0, 4, 0, 4)], [], [], 1, true)), (108, 48, ([0, 1, 2, 3], [(0, 4, 0, 0, false, 0, 2147483647, 0, 2147483647), (0, 5, 0, 0, false, 0, 4, 0, 4)], [(85, 4, 5), (90, 4, 5), (95, 4, 5), (100, 4, 5)], [], 1, true)), (108, 137, ([0, 1, 2, 3], [(0, 4, 0, 0, false, 0, 2147483647, 0, 2147483647), (0, 5, 0, 0, false, 0, 4, 0, 4)], [(86, 4, 5), (91, 4, 5), (96, 4, 5), (101, 4, 5)], [], 1, true))]) (sps := []) (af_kc (by decide +kernel)) (fun _ q => absurd q List.not_mem_nil) (fun _ q => absurd q List.not_mem_nil)

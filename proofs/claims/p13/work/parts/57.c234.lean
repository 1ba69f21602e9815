/-! Contracts 234 to 248 -/
/-! Life.leaveBlocks: 61 steps -/
/-! Life.enterBlock: 51 steps -/
/-! Life.blow: 119 steps -/
/-! Life.doStep: 2706 steps -/
/-! Life.goThrough: 188 steps -/
/-! LastLayer.live: 71 steps -/
/-! LastLayer.lived: 120 steps -/
noncomputable def aec_240 : ae_Ct := (192, [(2, 1, 0, 0), (0, 0, (-2147483648), 2147483647)], some (0, (-2147483648), 2147483647), [(1, 12, 12)], [], [[]], false, 1)
theorem aet_240 : ae_CT aec_240 := ae_con_ok ae_rok_ok ae_fok_ok (fuel := 100000) (cts := []) (mcs := []) (cus := []) (sps := []) (af_kc (by decide +kernel)) (fun _ q => absurd q List.not_mem_nil) (fun _ q => absurd q List.not_mem_nil)
/-! Life.leaveBlocks: 61 steps -/
noncomputable def aec_241 : ae_Ct := (20, [(2, 110, 0, 0), (2, 34, 0, 0), (0, 0, (-2147483648), 2147483647)], some (0, (-2147483648), 2147483647), [(110, 9, 9), (112, 0, 2)], [], [[]], false, 0)
theorem aet_241 : ae_CT aec_241 := ae_con_ok ae_rok_ok ae_fok_ok (fuel := 100000) (cts := []) (mcs := []) (cus := [(20, 2, ([0, 1, 2], [(0, 3, 0, 0, false, 0, 3, 0, 3)], [(110, 9, 9), (112, 0, 2)], [], 0, true))]) (sps := []) (af_kc (by decide +kernel)) (fun _ q => absurd q List.not_mem_nil) (fun _ q => absurd q List.not_mem_nil)
/-! Life.enterBlock: 51 steps -/
noncomputable def aec_242 : ae_Ct := (21, [(2, 110, 0, 0), (2, 34, 0, 0), (0, 0, 0, 29), (0, 0, (-2147483648), 2147483647)], some (0, 0, 30), [(110, 9, 9), (111, 0, 2), (112, 0, 2)], [], [[]], false, 0)
theorem aet_242 : ae_CT aec_242 := ae_con_ok ae_rok_ok ae_fok_ok (fuel := 100000) (cts := []) (mcs := []) (cus := []) (sps := []) (af_kc (by decide +kernel)) (fun _ q => absurd q List.not_mem_nil) (fun _ q => absurd q List.not_mem_nil)
/-! Life.blow: 119 steps -/
noncomputable def aec_243 : ae_Ct := (28, [(2, 110, 0, 0), (2, 76, 0, 0)], none, [(84, 1, 1), (89, 1, 1), (94, 1, 1), (99, 1, 1), (110, 10, 10)], [], [[]], false, 1)
theorem aet_243 : ae_CT aec_243 := ae_con_ok ae_rok_ok ae_fok_ok (fuel := 100000) (cts := []) (mcs := []) (cus := [(28, 2, ([0, 1], [(0, 2, 0, 0, false, 0, 4, 0, 4)], [(84, 1, 1), (89, 1, 1), (94, 1, 1), (99, 1, 1), (110, 10, 10)], [], 0, true))]) (sps := []) (af_kc (by decide +kernel)) (fun _ q => absurd q List.not_mem_nil) (fun _ q => absurd q List.not_mem_nil)
/-! Rick.grow: 44 steps -/
noncomputable def aec_244 : ae_Ct := (41, [(2, 82, 0, 0), (0, 0, (-2147483648), 2147483647)], some (0, (-2147483648), 2147483647), [(83, 0, 7)], [], [[]], false, 1)
theorem aet_244 : ae_CT aec_244 := ae_con_ok ae_rok_ok ae_fok_ok (fuel := 100000) (cts := []) (mcs := []) (cus := [(41, 7, ([0, 1], [(0, 2, 0, 0, false, (-2147483648), 2147483647, (-2147483648), 2147483647), (0, 3, 0, 0, false, 0, 8, 0, 8)], [(83, 0, 7)], [], 1, true))]) (sps := []) (af_kc (by decide +kernel)) (fun _ q => absurd q List.not_mem_nil) (fun _ q => absurd q List.not_mem_nil)
/-! Rick.grow: 44 steps -/
noncomputable def aec_245 : ae_Ct := (41, [(2, 87, 0, 0), (0, 0, (-2147483648), 2147483647)], some (0, (-2147483648), 2147483647), [(88, 0, 7)], [], [[]], false, 1)
theorem aet_245 : ae_CT aec_245 := ae_con_ok ae_rok_ok ae_fok_ok (fuel := 100000) (cts := []) (mcs := []) (cus := [(41, 7, ([0, 1], [(0, 2, 0, 0, false, (-2147483648), 2147483647, (-2147483648), 2147483647), (0, 3, 0, 0, false, 0, 8, 0, 8)], [(88, 0, 7)], [], 1, true))]) (sps := []) (af_kc (by decide +kernel)) (fun _ q => absurd q List.not_mem_nil) (fun _ q => absurd q List.not_mem_nil)
/-! Rick.grow: 44 steps -/
noncomputable def aec_246 : ae_Ct := (41, [(2, 92, 0, 0), (0, 0, (-2147483648), 2147483647)], some (0, (-2147483648), 2147483647), [(93, 0, 7)], [], [[]], false, 1)
theorem aet_246 : ae_CT aec_246 := ae_con_ok ae_rok_ok ae_fok_ok (fuel := 100000) (cts := []) (mcs := []) (cus := [(41, 7, ([0, 1], [(0, 2, 0, 0, false, (-2147483648), 2147483647, (-2147483648), 2147483647), (0, 3, 0, 0, false, 0, 8, 0, 8)], [(93, 0, 7)], [], 1, true))]) (sps := []) (af_kc (by decide +kernel)) (fun _ q => absurd q List.not_mem_nil) (fun _ q => absurd q List.not_mem_nil)
/-! Rick.grow: 44 steps -/
noncomputable def aec_247 : ae_Ct := (41, [(2, 97, 0, 0), (0, 0, (-2147483648), 2147483647)], some (0, (-2147483648), 2147483647), [(98, 0, 7)], [], [[]], false, 1)
theorem aet_247 : ae_CT aec_247 := ae_con_ok ae_rok_ok ae_fok_ok (fuel := 100000) (cts := []) (mcs := []) (cus := [(41, 7, ([0, 1], [(0, 2, 0, 0, false, (-2147483648), 2147483647, (-2147483648), 2147483647), (0, 3, 0, 0, false, 0, 8, 0, 8)], [(98, 0, 7)], [], 1, true))]) (sps := []) (af_kc (by decide +kernel)) (fun _ q => absurd q List.not_mem_nil) (fun _ q => absurd q List.not_mem_nil)
/-! Yard.passWeeks: 387 steps -/
noncomputable def aec_248 : ae_Ct := (116, [(2, 76, 0, 0), (0, 0, (-2147483648), 2147483647)], none, [(83, 0, 7), (88, 0, 7), (93, 0, 7), (98, 0, 7)], [], [[]], false, 2)
theorem aet_248 : ae_CT aec_248 := ae_con_ok ae_rok_ok ae_fok_ok (fuel := 100000) (cts := [aec_244, aec_245, aec_246, aec_247]) (mcs := []) (cus := [(116, 4, ([0, 1], [(0, 2, 0, 0, false, (-2147483648), 2147483647, (-2147483648), 2147483647), (0, 3, 0, 0, false, 0, 2147483647, 0, 2147483647)], [(83, 0, 7), (88, 0, 7), (93, 0, 7), (98, 0, 7)], [], 1, true)), (116, 18, ([0, 1, 3], [(0, 2, 0, 0, false, (-2147483648), 2147483647, (-2147483648), 2147483647), (0, 4, 0, 0, false, 0, 4, 0, 4)], [(83, 0, 7), (88, 0, 7), (93, 0, 7), (98, 0, 7)], [], 1, true))]) (sps := []) (af_kc (by decide +kernel)) (ae_ctc aet_244 (ae_ctc aet_245 (ae_ctc aet_246 (ae_ctc aet_247 (fun _ q => absurd q List.not_mem_nil))))) (fun _ q => absurd q List.not_mem_nil)

/-! Contracts 216 to 227 -/
/-! LastLayer.tellsStatus: 1818 steps -/
/-! Rick.runsSo: 284 steps -/
noncomputable def aec_217 : ae_Ct := (42, [(2, 19, 0, 0), (0, 0, (-2147483648), 2147483647), (2, 117, 0, 0), (0, 0, (-2147483648), 2147483647)], some (0, 0, 1), [], [], [[]], false, 2)
theorem aet_217 : ae_CT aec_217 := ae_con_ok ae_rok_ok ae_fok_ok (fuel := 100000) (cts := []) (mcs := []) (cus := [(42, 10, ([0, 1, 2, 3], [(0, 4, 0, 0, false, (-2147483648), 2147483647, (-2147483648), 2147483647), (0, 5, 0, 0, false, 0, 2147483647, 0, 2147483647)], [], [], 1, true))]) (sps := []) (af_kc (by decide +kernel)) (fun _ q => absurd q List.not_mem_nil) (fun _ q => absurd q List.not_mem_nil)
/-! Rick.runsSo: 284 steps -/
noncomputable def aec_218 : ae_Ct := (42, [(2, 24, 0, 0), (0, 0, (-2147483648), 2147483647), (2, 117, 0, 0), (0, 0, (-2147483648), 2147483647)], some (0, 0, 1), [], [], [[]], false, 2)
theorem aet_218 : ae_CT aec_218 := ae_con_ok ae_rok_ok ae_fok_ok (fuel := 100000) (cts := []) (mcs := []) (cus := [(42, 10, ([0, 1, 2, 3], [(0, 4, 0, 0, false, (-2147483648), 2147483647, (-2147483648), 2147483647), (0, 5, 0, 0, false, 0, 2147483647, 0, 2147483647)], [], [], 1, true))]) (sps := []) (af_kc (by decide +kernel)) (fun _ q => absurd q List.not_mem_nil) (fun _ q => absurd q List.not_mem_nil)
/-! Rick.runsSo: 284 steps -/
noncomputable def aec_219 : ae_Ct := (42, [(2, 29, 0, 0), (0, 0, (-2147483648), 2147483647), (2, 117, 0, 0), (0, 0, (-2147483648), 2147483647)], some (0, 0, 1), [], [], [[]], false, 2)
theorem aet_219 : ae_CT aec_219 := ae_con_ok ae_rok_ok ae_fok_ok (fuel := 100000) (cts := []) (mcs := []) (cus := [(42, 10, ([0, 1, 2, 3], [(0, 4, 0, 0, false, (-2147483648), 2147483647, (-2147483648), 2147483647), (0, 5, 0, 0, false, 0, 2147483647, 0, 2147483647)], [], [], 1, true))]) (sps := []) (af_kc (by decide +kernel)) (fun _ q => absurd q List.not_mem_nil) (fun _ q => absurd q List.not_mem_nil)
/-! Rick.runsSo: 284 steps -/
noncomputable def aec_220 : ae_Ct := (42, [(2, 14, 0, 0), (0, 0, (-2147483648), 2147483647), (2, 117, 0, 0), (0, 0, (-2147483648), 2147483647)], some (0, 0, 1), [], [], [[]], false, 2)
theorem aet_220 : ae_CT aec_220 := ae_con_ok ae_rok_ok ae_fok_ok (fuel := 100000) (cts := []) (mcs := []) (cus := [(42, 10, ([0, 1, 2, 3], [(0, 4, 0, 0, false, (-2147483648), 2147483647, (-2147483648), 2147483647), (0, 5, 0, 0, false, 0, 2147483647, 0, 2147483647)], [], [], 1, true))]) (sps := []) (af_kc (by decide +kernel)) (fun _ q => absurd q List.not_mem_nil) (fun _ q => absurd q List.not_mem_nil)
/-! Rick.runsSo: 284 steps -/
noncomputable def aec_221 : ae_Ct := (42, [(2, 19, 0, 0), (0, 0, (-2147483648), 2147483647), (2, 119, 0, 0), (0, 0, (-2147483648), 2147483647)], some (0, 0, 1), [], [], [[]], false, 2)
theorem aet_221 : ae_CT aec_221 := ae_con_ok ae_rok_ok ae_fok_ok (fuel := 100000) (cts := []) (mcs := []) (cus := [(42, 10, ([0, 1, 2, 3], [(0, 4, 0, 0, false, (-2147483648), 2147483647, (-2147483648), 2147483647), (0, 5, 0, 0, false, 0, 2147483647, 0, 2147483647)], [], [], 1, true))]) (sps := []) (af_kc (by decide +kernel)) (fun _ q => absurd q List.not_mem_nil) (fun _ q => absurd q List.not_mem_nil)
/-! Rick.runsSo: 284 steps -/
noncomputable def aec_222 : ae_Ct := (42, [(2, 24, 0, 0), (0, 0, (-2147483648), 2147483647), (2, 119, 0, 0), (0, 0, (-2147483648), 2147483647)], some (0, 0, 1), [], [], [[]], false, 2)
theorem aet_222 : ae_CT aec_222 := ae_con_ok ae_rok_ok ae_fok_ok (fuel := 100000) (cts := []) (mcs := []) (cus := [(42, 10, ([0, 1, 2, 3], [(0, 4, 0, 0, false, (-2147483648), 2147483647, (-2147483648), 2147483647), (0, 5, 0, 0, false, 0, 2147483647, 0, 2147483647)], [], [], 1, true))]) (sps := []) (af_kc (by decide +kernel)) (fun _ q => absurd q List.not_mem_nil) (fun _ q => absurd q List.not_mem_nil)
/-! Rick.runsSo: 284 steps -/
noncomputable def aec_223 : ae_Ct := (42, [(2, 29, 0, 0), (0, 0, (-2147483648), 2147483647), (2, 119, 0, 0), (0, 0, (-2147483648), 2147483647)], some (0, 0, 1), [], [], [[]], false, 2)
theorem aet_223 : ae_CT aec_223 := ae_con_ok ae_rok_ok ae_fok_ok (fuel := 100000) (cts := []) (mcs := []) (cus := [(42, 10, ([0, 1, 2, 3], [(0, 4, 0, 0, false, (-2147483648), 2147483647, (-2147483648), 2147483647), (0, 5, 0, 0, false, 0, 2147483647, 0, 2147483647)], [], [], 1, true))]) (sps := []) (af_kc (by decide +kernel)) (fun _ q => absurd q List.not_mem_nil) (fun _ q => absurd q List.not_mem_nil)
/-! Rick.runsSo: 284 steps -/
noncomputable def aec_224 : ae_Ct := (42, [(2, 14, 0, 0), (0, 0, (-2147483648), 2147483647), (2, 119, 0, 0), (0, 0, (-2147483648), 2147483647)], some (0, 0, 1), [], [], [[]], false, 2)
theorem aet_224 : ae_CT aec_224 := ae_con_ok ae_rok_ok ae_fok_ok (fuel := 100000) (cts := []) (mcs := []) (cus := [(42, 10, ([0, 1, 2, 3], [(0, 4, 0, 0, false, (-2147483648), 2147483647, (-2147483648), 2147483647), (0, 5, 0, 0, false, 0, 2147483647, 0, 2147483647)], [], [], 1, true))]) (sps := []) (af_kc (by decide +kernel)) (fun _ q => absurd q List.not_mem_nil) (fun _ q => absurd q List.not_mem_nil)
/-! Rick.runsSo: 284 steps -/
noncomputable def aec_225 : ae_Ct := (42, [(2, 19, 0, 0), (0, 0, (-2147483648), 2147483647), (2, 121, 0, 0), (0, 0, (-2147483648), 2147483647)], some (0, 0, 1), [], [], [[]], false, 2)
theorem aet_225 : ae_CT aec_225 := ae_con_ok ae_rok_ok ae_fok_ok (fuel := 100000) (cts := []) (mcs := []) (cus := [(42, 10, ([0, 1, 2, 3], [(0, 4, 0, 0, false, (-2147483648), 2147483647, (-2147483648), 2147483647), (0, 5, 0, 0, false, 0, 2147483647, 0, 2147483647)], [], [], 1, true))]) (sps := []) (af_kc (by decide +kernel)) (fun _ q => absurd q List.not_mem_nil) (fun _ q => absurd q List.not_mem_nil)
/-! Rick.runsSo: 284 steps -/
noncomputable def aec_226 : ae_Ct := (42, [(2, 24, 0, 0), (0, 0, (-2147483648), 2147483647), (2, 121, 0, 0), (0, 0, (-2147483648), 2147483647)], some (0, 0, 1), [], [], [[]], false, 2)
theorem aet_226 : ae_CT aec_226 := ae_con_ok ae_rok_ok ae_fok_ok (fuel := 100000) (cts := []) (mcs := []) (cus := [(42, 10, ([0, 1, 2, 3], [(0, 4, 0, 0, false, (-2147483648), 2147483647, (-2147483648), 2147483647), (0, 5, 0, 0, false, 0, 2147483647, 0, 2147483647)], [], [], 1, true))]) (sps := []) (af_kc (by decide +kernel)) (fun _ q => absurd q List.not_mem_nil) (fun _ q => absurd q List.not_mem_nil)
/-! Rick.runsSo: 284 steps -/
noncomputable def aec_227 : ae_Ct := (42, [(2, 29, 0, 0), (0, 0, (-2147483648), 2147483647), (2, 121, 0, 0), (0, 0, (-2147483648), 2147483647)], some (0, 0, 1), [], [], [[]], false, 2)
theorem aet_227 : ae_CT aec_227 := ae_con_ok ae_rok_ok ae_fok_ok (fuel := 100000) (cts := []) (mcs := []) (cus := [(42, 10, ([0, 1, 2, 3], [(0, 4, 0, 0, false, (-2147483648), 2147483647, (-2147483648), 2147483647), (0, 5, 0, 0, false, 0, 2147483647, 0, 2147483647)], [], [], 1, true))]) (sps := []) (af_kc (by decide +kernel)) (fun _ q => absurd q List.not_mem_nil) (fun _ q => absurd q List.not_mem_nil)

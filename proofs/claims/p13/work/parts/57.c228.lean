/-! Contracts 228 to 232 -/
/-! Rick.runsSo: 284 steps -/
noncomputable def aec_228 : ae_Ct := (42, [(2, 14, 0, 0), (0, 0, (-2147483648), 2147483647), (2, 121, 0, 0), (0, 0, (-2147483648), 2147483647)], some (0, 0, 1), [], [], [[]], false, 2)
theorem aet_228 : ae_CT aec_228 := ae_con_ok ae_rok_ok ae_fok_ok (fuel := 100000) (cts := []) (mcs := []) (cus := [(42, 10, ([0, 1, 2, 3], [(0, 4, 0, 0, false, (-2147483648), 2147483647, (-2147483648), 2147483647), (0, 5, 0, 0, false, 0, 2147483647, 0, 2147483647)], [], [], 1, true))]) (sps := []) (af_kc (by decide +kernel)) (fun _ q => absurd q List.not_mem_nil) (fun _ q => absurd q List.not_mem_nil)
/-! Rick.runsSo: 284 steps -/
noncomputable def aec_229 : ae_Ct := (42, [(2, 19, 0, 0), (0, 0, (-2147483648), 2147483647), (2, 115, 0, 0), (0, 0, (-2147483648), 2147483647)], some (0, 0, 1), [], [], [[]], false, 2)
theorem aet_229 : ae_CT aec_229 := ae_con_ok ae_rok_ok ae_fok_ok (fuel := 100000) (cts := []) (mcs := []) (cus := [(42, 10, ([0, 1, 2, 3], [(0, 4, 0, 0, false, (-2147483648), 2147483647, (-2147483648), 2147483647), (0, 5, 0, 0, false, 0, 2147483647, 0, 2147483647)], [], [], 1, true))]) (sps := []) (af_kc (by decide +kernel)) (fun _ q => absurd q List.not_mem_nil) (fun _ q => absurd q List.not_mem_nil)
/-! Rick.runsSo: 284 steps -/
noncomputable def aec_230 : ae_Ct := (42, [(2, 24, 0, 0), (0, 0, (-2147483648), 2147483647), (2, 115, 0, 0), (0, 0, (-2147483648), 2147483647)], some (0, 0, 1), [], [], [[]], false, 2)
theorem aet_230 : ae_CT aec_230 := ae_con_ok ae_rok_ok ae_fok_ok (fuel := 100000) (cts := []) (mcs := []) (cus := [(42, 10, ([0, 1, 2, 3], [(0, 4, 0, 0, false, (-2147483648), 2147483647, (-2147483648), 2147483647), (0, 5, 0, 0, false, 0, 2147483647, 0, 2147483647)], [], [], 1, true))]) (sps := []) (af_kc (by decide +kernel)) (fun _ q => absurd q List.not_mem_nil) (fun _ q => absurd q List.not_mem_nil)
/-! Rick.runsSo: 284 steps -/
noncomputable def aec_231 : ae_Ct := (42, [(2, 29, 0, 0), (0, 0, (-2147483648), 2147483647), (2, 115, 0, 0), (0, 0, (-2147483648), 2147483647)], some (0, 0, 1), [], [], [[]], false, 2)
theorem aet_231 : ae_CT aec_231 := ae_con_ok ae_rok_ok ae_fok_ok (fuel := 100000) (cts := []) (mcs := []) (cus := [(42, 10, ([0, 1, 2, 3], [(0, 4, 0, 0, false, (-2147483648), 2147483647, (-2147483648), 2147483647), (0, 5, 0, 0, false, 0, 2147483647, 0, 2147483647)], [], [], 1, true))]) (sps := []) (af_kc (by decide +kernel)) (fun _ q => absurd q List.not_mem_nil) (fun _ q => absurd q List.not_mem_nil)
/-! Rick.runsSo: 284 steps -/
noncomputable def aec_232 : ae_Ct := (42, [(2, 14, 0, 0), (0, 0, (-2147483648), 2147483647), (2, 115, 0, 0), (0, 0, (-2147483648), 2147483647)], some (0, 0, 1), [], [], [[]], false, 2)
theorem aet_232 : ae_CT aec_232 := ae_con_ok ae_rok_ok ae_fok_ok (fuel := 100000) (cts := []) (mcs := []) (cus := [(42, 10, ([0, 1, 2, 3], [(0, 4, 0, 0, false, (-2147483648), 2147483647, (-2147483648), 2147483647), (0, 5, 0, 0, false, 0, 2147483647, 0, 2147483647)], [], [], 1, true))]) (sps := []) (af_kc (by decide +kernel)) (fun _ q => absurd q List.not_mem_nil) (fun _ q => absurd q List.not_mem_nil)

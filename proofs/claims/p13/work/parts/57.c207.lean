/-! Contracts 207 to 215 -/
/-! Trial.ratsAfter: 822 steps -/
noncomputable def aec_207 : ae_Ct := (83, [(2, 75, 0, 0), (2, 8, 0, 0), (0, 0, 0, 3), (0, 0, 0, 999)], some (0, (-2147483648), 2147483647), [(102, 0, 2), (102, 4, 5), (103, 0, 7)], [], [[]], false, 2)
theorem aet_207 : ae_CT aec_207 := ae_con_ok ae_rok_ok ae_fok_ok (fuel := 100000) (cts := [aec_205, aec_206]) (mcs := []) (cus := [(83, 16, ([0, 1, 2, 3], [(0, 4, 0, 0, false, 0, 999, 0, 999)], [(103, 0, 7)], [], 0, true))]) (sps := []) (af_kc (by decide +kernel)) (ae_ctc aet_205 (ae_ctc aet_206 (fun _ q => absurd q List.not_mem_nil))) (fun _ q => absurd q List.not_mem_nil)
/-! LastLayer.later: 127 steps -/
noncomputable def aec_208 : ae_Ct := (184, [(2, 1, 0, 0), (0, 0, (-2147483648), 2147483647), (0, 0, (-2147483648), 2147483647)], some (0, (-2147483648), 2147483647), [(1, 12, 12), (102, 0, 2), (102, 4, 5), (103, 0, 7)], [], [[]], false, 3)
theorem aet_208 : ae_CT aec_208 := ae_con_ok ae_rok_ok ae_fok_ok (fuel := 100000) (cts := [aec_207]) (mcs := []) (cus := []) (sps := []) (af_kc (by decide +kernel)) (ae_ctc aet_207 (fun _ q => absurd q List.not_mem_nil)) (fun _ q => absurd q List.not_mem_nil)
/-! Trial.weeksTo: 618 steps -/
noncomputable def aec_209 : ae_Ct := (84, [(2, 75, 0, 0), (2, 8, 0, 0), (0, 0, 0, 3), (0, 0, 0, 9999)], some (0, (-1), 999), [(102, 0, 2), (102, 4, 5), (103, 0, 7)], [], [[]], false, 2)
theorem aet_209 : ae_CT aec_209 := ae_con_ok ae_rok_ok ae_fok_ok (fuel := 100000) (cts := [aec_205, aec_206]) (mcs := []) (cus := [(84, 16, ([0, 1, 2, 3], [(0, 4, 0, 0, false, 0, 1000, 0, 1000)], [(103, 0, 7)], [], 0, true))]) (sps := []) (af_kc (by decide +kernel)) (ae_ctc aet_205 (ae_ctc aet_206 (fun _ q => absurd q List.not_mem_nil))) (fun _ q => absurd q List.not_mem_nil)
/-! LastLayer.backTo: 137 steps -/
noncomputable def aec_210 : ae_Ct := (185, [(2, 1, 0, 0), (0, 0, (-2147483648), 2147483647), (0, 0, (-2147483648), 2147483647)], some (0, (-1), 999), [(1, 12, 12), (102, 0, 2), (102, 4, 5), (103, 0, 7)], [], [[]], false, 3)
theorem aet_210 : ae_CT aec_210 := ae_con_ok ae_rok_ok ae_fok_ok (fuel := 100000) (cts := [aec_209]) (mcs := []) (cus := []) (sps := []) (af_kc (by decide +kernel)) (ae_ctc aet_209 (fun _ q => absurd q List.not_mem_nil)) (fun _ q => absurd q List.not_mem_nil)
/-! Trial.eatenIn: 642 steps -/
noncomputable def aec_211 : ae_Ct := (85, [(2, 75, 0, 0), (2, 8, 0, 0), (0, 0, 0, 3), (0, 0, 0, 999)], some (1, (-9223372036854775808), 9223372036854775807), [(102, 0, 2), (102, 4, 5), (103, 0, 7)], [], [[]], false, 2)
theorem aet_211 : ae_CT aec_211 := ae_con_ok ae_rok_ok ae_fok_ok (fuel := 100000) (cts := [aec_205, aec_206]) (mcs := []) (cus := [(85, 19, ([0, 1, 2, 3], [(0, 4, 0, 1, false, (-9223372036854775808), 9223372036854775807, (-9223372036854775808), 9223372036854775807), (0, 6, 0, 0, false, 0, 999, 0, 999)], [(103, 0, 7)], [], 1, true))]) (sps := []) (af_kc (by decide +kernel)) (ae_ctc aet_205 (ae_ctc aet_206 (fun _ q => absurd q List.not_mem_nil))) (fun _ q => absurd q List.not_mem_nil)
/-! LastLayer.eaten: 123 steps -/
noncomputable def aec_212 : ae_Ct := (186, [(2, 1, 0, 0), (0, 0, (-2147483648), 2147483647), (0, 0, (-2147483648), 2147483647)], some (1, (-9223372036854775808), 9223372036854775807), [(1, 12, 12), (102, 0, 2), (102, 4, 5), (103, 0, 7)], [], [[]], false, 3)
theorem aet_212 : ae_CT aec_212 := ae_con_ok ae_rok_ok ae_fok_ok (fuel := 100000) (cts := [aec_211]) (mcs := []) (cus := []) (sps := []) (af_kc (by decide +kernel)) (ae_ctc aet_211 (fun _ q => absurd q List.not_mem_nil)) (fun _ q => absurd q List.not_mem_nil)
/-! Trial.weeksToCost: 674 steps -/
noncomputable def aec_213 : ae_Ct := (86, [(2, 75, 0, 0), (2, 8, 0, 0), (0, 0, 0, 3)], some (0, (-1), 999), [(102, 0, 2), (102, 4, 5), (103, 0, 7)], [], [[]], false, 2)
theorem aet_213 : ae_CT aec_213 := ae_con_ok ae_rok_ok ae_fok_ok (fuel := 100000) (cts := [aec_205, aec_206]) (mcs := []) (cus := [(86, 18, ([0, 1, 2], [(0, 3, 0, 1, false, (-9223372036854775808), 9223372036854775807, (-9223372036854775808), 9223372036854775807), (0, 5, 0, 0, false, 0, 1000, 0, 1000)], [(103, 0, 7)], [], 1, true))]) (sps := []) (af_kc (by decide +kernel)) (ae_ctc aet_205 (ae_ctc aet_206 (fun _ q => absurd q List.not_mem_nil))) (fun _ q => absurd q List.not_mem_nil)
/-! LastLayer.capsPay: 145 steps -/
noncomputable def aec_214 : ae_Ct := (187, [(2, 1, 0, 0), (0, 0, (-2147483648), 2147483647)], some (0, (-1), 999), [(1, 12, 12), (102, 0, 2), (102, 4, 5), (103, 0, 7)], [], [[]], false, 3)
theorem aet_214 : ae_CT aec_214 := ae_con_ok ae_rok_ok ae_fok_ok (fuel := 100000) (cts := [aec_213]) (mcs := []) (cus := []) (sps := []) (af_kc (by decide +kernel)) (ae_ctc aet_213 (fun _ q => absurd q List.not_mem_nil)) (fun _ q => absurd q List.not_mem_nil)
/-! LastLayer.cap: 195 steps -/

/-! Contracts 1 to 18 -/
/-! LastLayer.good: 5 steps -/
noncomputable def aec_1 : ae_Ct := (129, [(2, 1, 0, 0), (0, 0, (-2147483648), 2147483647)], some (0, (-2147483648), 2147483647), [(1, 12, 12)], [], [[]], false, 0)
theorem aet_1 : ae_CT aec_1 := ae_con_ok ae_rok_ok ae_fok_ok (fuel := 100000) (cts := []) (mcs := []) (cus := []) (sps := []) (af_kc (by decide +kernel)) (fun _ q => absurd q List.not_mem_nil) (fun _ q => absurd q List.not_mem_nil)
/-! LastLayer.bad: 5 steps -/
noncomputable def aec_2 : ae_Ct := (130, [(2, 1, 0, 0), (0, 0, (-2147483648), 2147483647)], some (0, (-1), (-1)), [(1, 12, 12)], [], [[]], false, 0)
theorem aet_2 : ae_CT aec_2 := ae_con_ok ae_rok_ok ae_fok_ok (fuel := 100000) (cts := []) (mcs := []) (cus := []) (sps := []) (af_kc (by decide +kernel)) (fun _ q => absurd q List.not_mem_nil) (fun _ q => absurd q List.not_mem_nil)
/-! LastLayer.did: 5 steps -/
/-! LastLayer.didNot: 5 steps -/
/-! LastLayer.isTray: 12 steps -/
/-! LastLayer.isBetween: 13 steps -/
/-! LastLayer.tellFraction: 67 steps -/
noncomputable def aec_7 : ae_Ct := (135, [(2, 1, 0, 0), (1, 0, (-9223372036854775808), 9223372036854775807), (1, 0, (-9223372036854775808), 9223372036854775807)], none, [(1, 13, 14)], [], [[]], false, 0)
theorem aet_7 : ae_CT aec_7 := ae_con_ok ae_rok_ok ae_fok_ok (fuel := 100000) (cts := []) (mcs := []) (cus := [(135, 9, ([0, 1, 3], [(0, 5, 0, 1, false, (-9223372036854775808), 9223372036854775807, (-9223372036854775808), 9223372036854775807), (0, 7, 0, 1, false, (-9223372036854775808), 9223372036854775807, (-9223372036854775808), 9223372036854775807), (0, 9, 0, 0, false, 0, 100, 0, 100)], [], [], 2, true))]) (sps := []) (af_kc (by decide +kernel)) (fun _ q => absurd q List.not_mem_nil) (fun _ q => absurd q List.not_mem_nil)
/-! LastLayer.status: 3 steps -/
noncomputable def aec_8 : ae_Ct := (136, [(2, 1, 0, 0)], some (0, (-2147483648), 2147483647), [], [], [[]], false, 0)
theorem aet_8 : ae_CT aec_8 := ae_con_ok ae_rok_ok ae_fok_ok (fuel := 100000) (cts := []) (mcs := []) (cus := []) (sps := []) (af_kc (by decide +kernel)) (fun _ q => absurd q List.not_mem_nil) (fun _ q => absurd q List.not_mem_nil)
/-! LastLayer.top: 3 steps -/
noncomputable def aec_9 : ae_Ct := (137, [(2, 1, 0, 0)], some (1, (-9223372036854775808), 9223372036854775807), [], [], [[]], false, 0)
theorem aet_9 : ae_CT aec_9 := ae_con_ok ae_rok_ok ae_fok_ok (fuel := 100000) (cts := []) (mcs := []) (cus := []) (sps := []) (af_kc (by decide +kernel)) (fun _ q => absurd q List.not_mem_nil) (fun _ q => absurd q List.not_mem_nil)
/-! LastLayer.bottom: 3 steps -/
noncomputable def aec_10 : ae_Ct := (138, [(2, 1, 0, 0)], some (1, (-9223372036854775808), 9223372036854775807), [], [], [[]], false, 0)
theorem aet_10 : ae_CT aec_10 := ae_con_ok ae_rok_ok ae_fok_ok (fuel := 100000) (cts := []) (mcs := []) (cus := []) (sps := []) (af_kc (by decide +kernel)) (fun _ q => absurd q List.not_mem_nil) (fun _ q => absurd q List.not_mem_nil)
/-! Tray.make: 22 steps -/
noncomputable def aec_11 : ae_Ct := (67, [(2, 115, 0, 0), (0, 0, 0, 3), (0, 0, 0, 60)], none, [(115, 1, 2), (116, 0, 59)], [], [[]], false, 1)
theorem aet_11 : ae_CT aec_11 := ae_con_ok ae_rok_ok ae_fok_ok (fuel := 100000) (cts := []) (mcs := []) (cus := [(67, 17, ([0, 1, 2], [(0, 3, 0, 0, false, 0, 60, 0, 60)], [(116, 0, 59)], [], 0, true))]) (sps := []) (af_kc (by decide +kernel)) (fun _ q => absurd q List.not_mem_nil) (fun _ q => absurd q List.not_mem_nil)
/-! Tray.make: 22 steps -/
noncomputable def aec_12 : ae_Ct := (67, [(2, 121, 0, 0), (0, 0, 0, 3), (0, 0, 0, 60)], none, [(121, 1, 2), (122, 0, 59)], [], [[]], false, 1)
theorem aet_12 : ae_CT aec_12 := ae_con_ok ae_rok_ok ae_fok_ok (fuel := 100000) (cts := []) (mcs := []) (cus := [(67, 17, ([0, 1, 2], [(0, 3, 0, 0, false, 0, 60, 0, 60)], [(122, 0, 59)], [], 0, true))]) (sps := []) (af_kc (by decide +kernel)) (fun _ q => absurd q List.not_mem_nil) (fun _ q => absurd q List.not_mem_nil)
/-! Tray.make: 22 steps -/
noncomputable def aec_13 : ae_Ct := (67, [(2, 119, 0, 0), (0, 0, 0, 3), (0, 0, 0, 60)], none, [(119, 1, 2), (120, 0, 59)], [], [[]], false, 1)
theorem aet_13 : ae_CT aec_13 := ae_con_ok ae_rok_ok ae_fok_ok (fuel := 100000) (cts := []) (mcs := []) (cus := [(67, 17, ([0, 1, 2], [(0, 3, 0, 0, false, 0, 60, 0, 60)], [(120, 0, 59)], [], 0, true))]) (sps := []) (af_kc (by decide +kernel)) (fun _ q => absurd q List.not_mem_nil) (fun _ q => absurd q List.not_mem_nil)
/-! Tray.make: 22 steps -/
noncomputable def aec_14 : ae_Ct := (67, [(2, 117, 0, 0), (0, 0, 0, 3), (0, 0, 0, 60)], none, [(117, 1, 2), (118, 0, 59)], [], [[]], false, 1)
theorem aet_14 : ae_CT aec_14 := ae_con_ok ae_rok_ok ae_fok_ok (fuel := 100000) (cts := []) (mcs := []) (cus := [(67, 17, ([0, 1, 2], [(0, 3, 0, 0, false, 0, 60, 0, 60)], [(118, 0, 59)], [], 0, true))]) (sps := []) (af_kc (by decide +kernel)) (fun _ q => absurd q List.not_mem_nil) (fun _ q => absurd q List.not_mem_nil)
/-! LastLayer.tray: 146 steps -/
noncomputable def aec_15 : ae_Ct := (139, [(2, 1, 0, 0), (0, 0, (-2147483648), 2147483647), (0, 0, (-2147483648), 2147483647), (0, 0, (-2147483648), 2147483647)], some (0, 0, 1), [(1, 12, 12), (115, 1, 2), (116, 0, 59), (117, 1, 2), (118, 0, 59), (119, 1, 2), (120, 0, 59), (121, 1, 2), (122, 0, 59)], [], [[]], false, 2)
theorem aet_15 : ae_CT aec_15 := ae_con_ok ae_rok_ok ae_fok_ok (fuel := 100000) (cts := [aec_11, aec_12, aec_13, aec_14]) (mcs := []) (cus := []) (sps := []) (af_kc (by decide +kernel)) (ae_ctc aet_11 (ae_ctc aet_12 (ae_ctc aet_13 (ae_ctc aet_14 (fun _ q => absurd q List.not_mem_nil))))) (fun _ q => absurd q List.not_mem_nil)
/-! LastLayer.placeStatus: 194 steps -/
/-! LastLayer.write: 738 steps -/
noncomputable def aec_17 : ae_Ct := (141, [(2, 1, 0, 0), (0, 0, (-2147483648), 2147483647), (0, 0, (-2147483648), 2147483647), (1, 0, (-9223372036854775808), 9223372036854775807)], some (0, 0, 1), [(1, 12, 12), (116, 0, 59), (118, 0, 59), (120, 0, 59), (122, 0, 59)], [], [[]], false, 2)
theorem aet_17 : ae_CT aec_17 := ae_con_ok ae_rok_ok ae_fok_ok (fuel := 100000) (cts := []) (mcs := []) (cus := []) (sps := []) (af_kc (by decide +kernel)) (fun _ q => absurd q List.not_mem_nil) (fun _ q => absurd q List.not_mem_nil)
/-! LastLayer.read: 508 steps -/
noncomputable def aec_18 : ae_Ct := (142, [(2, 1, 0, 0), (0, 0, (-2147483648), 2147483647), (0, 0, (-2147483648), 2147483647)], some (1, (-9223372036854775808), 9223372036854775807), [(1, 12, 12)], [], [[]], false, 2)
theorem aet_18 : ae_CT aec_18 := ae_con_ok ae_rok_ok ae_fok_ok (fuel := 100000) (cts := []) (mcs := []) (cus := []) (sps := []) (af_kc (by decide +kernel)) (fun _ q => absurd q List.not_mem_nil) (fun _ q => absurd q List.not_mem_nil)

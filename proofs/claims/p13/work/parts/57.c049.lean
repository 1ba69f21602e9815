/-! Contracts 49 to 62 -/
/-! YardReader.readText: 1143 steps -/
noncomputable def aec_49 : ae_Ct := (118, [(2, 40, 0, 0), (0, 0, 0, 900)], some (0, 0, 1), [(3, 4, 7), (3, 9, 16), (5, 0, 900), (6, 0, 900), (7, 0, 900), (40, 2, 2), (41, 5, 17), (47, 0, 2), (47, 4, 5), (48, 0, 7), (49, 0, 4), (50, 0, 5), (51, 0, 5), (52, 0, 2), (52, 4, 5), (53, 0, 7), (54, 0, 4), (55, 0, 5), (56, 0, 5), (57, 0, 2), (57, 4, 5), (58, 0, 7), (59, 0, 4), (60, 0, 5), (61, 0, 5), (62, 0, 2), (62, 4, 5), (63, 0, 7), (64, 0, 4), (65, 0, 5), (66, 0, 5)], [], [[]], false, 6)
theorem aet_49 : ae_CT aec_49 := ae_con_ok ae_rok_ok ae_fok_ok (fuel := 100000) (cts := [aec_27, aec_29, aec_38, aec_41, aec_42, aec_47, aec_48]) (mcs := []) (cus := [(118, 22, ([0, 1], [(0, 2, 0, 0, false, 0, 901, 0, 901)], [(3, 5, 5), (3, 9, 16), (40, 2, 2), (41, 5, 12), (47, 0, 2), (47, 4, 5), (48, 0, 7), (49, 0, 4), (50, 0, 5), (51, 0, 5), (52, 0, 2), (52, 4, 5), (53, 0, 7), (54, 0, 4), (55, 0, 5), (56, 0, 5), (57, 0, 2), (57, 4, 5), (58, 0, 7), (59, 0, 4), (60, 0, 5), (61, 0, 5), (62, 0, 2), (62, 4, 5), (63, 0, 7), (64, 0, 4), (65, 0, 5), (66, 0, 5)], [], 0, true))]) (sps := []) (af_kc (by decide +kernel)) (ae_ctc aet_27 (ae_ctc aet_29 (ae_ctc aet_38 (ae_ctc aet_41 (ae_ctc aet_42 (ae_ctc aet_47 (ae_ctc aet_48 (fun _ q => absurd q List.not_mem_nil)))))))) (fun _ q => absurd q List.not_mem_nil)
/-! Yard.copyFrom: 621 steps -/
noncomputable def aec_50 : ae_Ct := (89, [(2, 8, 0, 0), (2, 41, 0, 0)], none, [(8, 5, 17), (14, 0, 2), (14, 4, 5), (15, 0, 7), (16, 0, 4), (17, 0, 5), (18, 0, 5), (19, 0, 2), (19, 4, 5), (20, 0, 7), (21, 0, 4), (22, 0, 5), (23, 0, 5), (24, 0, 2), (24, 4, 5), (25, 0, 7), (26, 0, 4), (27, 0, 5), (28, 0, 5), (29, 0, 2), (29, 4, 5), (30, 0, 7), (31, 0, 4), (32, 0, 5), (33, 0, 5)], [], [[]], false, 2)
theorem aet_50 : ae_CT aec_50 := ae_con_ok ae_rok_ok ae_fok_ok (fuel := 100000) (cts := []) (mcs := []) (cus := [(89, 106, ([0, 1], [(0, 2, 0, 0, false, 0, 4, 0, 4)], [(14, 0, 2), (14, 4, 5), (15, 0, 7), (19, 0, 2), (19, 4, 5), (20, 0, 7), (24, 0, 2), (24, 4, 5), (25, 0, 7), (29, 0, 2), (29, 4, 5), (30, 0, 7)], [], 0, true)), (89, 137, ([0, 1], [(0, 2, 0, 0, false, 0, 4, 0, 4)], [(16, 0, 4), (21, 0, 4), (26, 0, 4), (31, 0, 4)], [], 0, true)), (89, 168, ([0, 1], [(0, 2, 0, 0, false, 0, 4, 0, 4)], [(17, 0, 5), (22, 0, 5), (27, 0, 5), (32, 0, 5)], [], 0, true)), (89, 199, ([0, 1], [(0, 2, 0, 0, false, 0, 4, 0, 4)], [(18, 0, 5), (23, 0, 5), (28, 0, 5), (33, 0, 5)], [], 0, true))]) (sps := []) (af_kc (by decide +kernel)) (fun _ q => absurd q List.not_mem_nil) (fun _ q => absurd q List.not_mem_nil)
/-! LastLayer.yard: 72 steps -/
/-! Tape.passNumber: 156 steps -/
noncomputable def aec_52 : ae_Ct := (63, [(2, 3, 0, 0), (0, 0, 1, 1), (0, 0, 99, 99)], some (0, (-1), 99), [(3, 5, 5), (3, 9, 16)], [], [[]], false, 1)
theorem aet_52 : ae_CT aec_52 := ae_con_ok ae_rok_ok ae_fok_ok (fuel := 100000) (cts := [aec_26]) (mcs := []) (cus := []) (sps := []) (af_kc (by decide +kernel)) (ae_ctc aet_26 (fun _ q => absurd q List.not_mem_nil)) (fun _ q => absurd q List.not_mem_nil)
/-! Yard.rickNamed: 60 steps -/
noncomputable def aec_53 : ae_Ct := (94, [(2, 8, 0, 0), (1, 0, (-9223372036854775808), 9223372036854775807)], some (0, (-1), 3), [], [], [[]], false, 0)
theorem aet_53 : ae_CT aec_53 := ae_con_ok ae_rok_ok ae_fok_ok (fuel := 100000) (cts := []) (mcs := []) (cus := [(94, 2, ([0, 1], [(0, 3, 0, 0, false, 0, 4, 0, 4)], [], [], 0, true))]) (sps := []) (af_kc (by decide +kernel)) (fun _ q => absurd q List.not_mem_nil) (fun _ q => absurd q List.not_mem_nil)
/-! Yard.dogNamed: 60 steps -/
noncomputable def aec_54 : ae_Ct := (96, [(2, 8, 0, 0), (1, 0, (-9223372036854775808), 9223372036854775807)], some (0, (-1), 3), [], [], [[]], false, 0)
theorem aet_54 : ae_CT aec_54 := ae_con_ok ae_rok_ok ae_fok_ok (fuel := 100000) (cts := []) (mcs := []) (cus := [(96, 2, ([0, 1], [(0, 3, 0, 0, false, 0, 4, 0, 4)], [], [], 0, true))]) (sps := []) (af_kc (by decide +kernel)) (fun _ q => absurd q List.not_mem_nil) (fun _ q => absurd q List.not_mem_nil)
/-! DaysReader.readTest: 641 steps -/
noncomputable def aec_55 : ae_Ct := (17, [(2, 67, 0, 0), (0, 0, 0, 29)], some (0, 0, 1), [(3, 5, 5), (3, 9, 16), (69, 0, 29), (70, 0, 29), (71, 0, 29), (72, 0, 29)], [], [[]], false, 3)
theorem aet_55 : ae_CT aec_55 := ae_con_ok ae_rok_ok ae_fok_ok (fuel := 100000) (cts := [aec_26, aec_28, aec_37, aec_53, aec_54]) (mcs := []) (cus := []) (sps := []) (af_kc (by decide +kernel)) (ae_ctc aet_26 (ae_ctc aet_28 (ae_ctc aet_37 (ae_ctc aet_53 (ae_ctc aet_54 (fun _ q => absurd q List.not_mem_nil)))))) (fun _ q => absurd q List.not_mem_nil)
/-! Yard.sideNamed: 60 steps -/
noncomputable def aec_56 : ae_Ct := (95, [(2, 8, 0, 0), (1, 0, (-9223372036854775808), 9223372036854775807)], some (0, (-1), 3), [], [], [[]], false, 0)
theorem aet_56 : ae_CT aec_56 := ae_con_ok ae_rok_ok ae_fok_ok (fuel := 100000) (cts := []) (mcs := []) (cus := [(95, 2, ([0, 1], [(0, 3, 0, 0, false, 0, 4, 0, 4)], [], [], 0, true))]) (sps := []) (af_kc (by decide +kernel)) (fun _ q => absurd q List.not_mem_nil) (fun _ q => absurd q List.not_mem_nil)
/-! DaysReader.readMove: 65 steps -/
noncomputable def aec_57 : ae_Ct := (16, [(2, 67, 0, 0), (0, 0, 0, 29)], some (0, 0, 1), [(3, 5, 5), (3, 9, 16), (70, 0, 29), (71, 0, 29)], [], [[]], false, 3)
theorem aet_57 : ae_CT aec_57 := ae_con_ok ae_rok_ok ae_fok_ok (fuel := 100000) (cts := [aec_36, aec_37, aec_54, aec_56]) (mcs := []) (cus := []) (sps := []) (af_kc (by decide +kernel)) (ae_ctc aet_36 (ae_ctc aet_37 (ae_ctc aet_54 (ae_ctc aet_56 (fun _ q => absurd q List.not_mem_nil))))) (fun _ q => absurd q List.not_mem_nil)
/-! DaysReader.readRest: 105 steps -/
/-! DaysReader.readRest: 30 steps -/
/-! DaysReader.readRest: 4 steps -/
/-! DaysReader.readRest: 33 steps -/
/-! DaysReader.readRest: 67 steps -/

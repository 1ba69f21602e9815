/-! Contracts 63 to 81 -/
/-! DaysReader.readStep: 2033 steps -/
noncomputable def aec_63 : ae_Ct := (11, [(2, 67, 0, 0)], some (0, 0, 1), [(3, 5, 5), (3, 9, 16), (67, 4, 4), (68, 5, 5), (69, 0, 29), (70, 0, 29), (71, 0, 29), (72, 0, 29), (73, 0, 29), (74, 0, 2)], [], [[]], false, 5)
theorem aet_63 : ae_CT aec_63 := ae_con_ok ae_rok_ok ae_fok_ok (fuel := 100000) (cts := [aec_26, aec_48, aec_58, aec_59, aec_60, aec_61, aec_62]) (mcs := []) (cus := []) (sps := []) (af_kc (by decide +kernel)) (ae_ctc aet_26 (ae_ctc aet_48 (ae_ctc aet_58 (ae_ctc aet_59 (ae_ctc aet_60 (ae_ctc aet_61 (ae_ctc aet_62 (fun _ q => absurd q List.not_mem_nil)))))))) (fun _ q => absurd q List.not_mem_nil)
/-! DaysReader.readText: 258 steps -/
noncomputable def aec_64 : ae_Ct := (9, [(2, 67, 0, 0), (0, 0, 0, 300)], some (0, 0, 1), [(3, 4, 7), (3, 9, 16), (5, 0, 900), (6, 0, 900), (7, 0, 900), (67, 4, 4), (68, 5, 6), (69, 0, 29), (70, 0, 29), (71, 0, 29), (72, 0, 29), (73, 0, 29), (74, 0, 2)], [], [[]], false, 6)
theorem aet_64 : ae_CT aec_64 := ae_con_ok ae_rok_ok ae_fok_ok (fuel := 100000) (cts := [aec_26, aec_27, aec_48, aec_63]) (mcs := []) (cus := [(9, 22, ([0, 1], [(0, 2, 0, 0, false, 0, 385, 0, 385)], [(3, 5, 5), (3, 9, 16), (67, 4, 4), (68, 5, 6), (69, 0, 29), (70, 0, 29), (71, 0, 29), (72, 0, 29), (73, 0, 29), (74, 0, 2)], [], 0, true))]) (sps := []) (af_kc (by decide +kernel)) (ae_ctc aet_26 (ae_ctc aet_27 (ae_ctc aet_48 (ae_ctc aet_63 (fun _ q => absurd q List.not_mem_nil))))) (fun _ q => absurd q List.not_mem_nil)
/-! Days.copyFrom: 49 steps -/
noncomputable def aec_65 : ae_Ct := (7, [(2, 34, 0, 0), (2, 68, 0, 0)], none, [(34, 5, 6), (35, 0, 29), (36, 0, 29), (37, 0, 29), (38, 0, 29), (39, 0, 29)], [], [[]], false, 1)
theorem aet_65 : ae_CT aec_65 := ae_con_ok ae_rok_ok ae_fok_ok (fuel := 100000) (cts := []) (mcs := []) (cus := []) (sps := []) (af_kc (by decide +kernel)) (fun _ q => absurd q List.not_mem_nil) (fun _ q => absurd q List.not_mem_nil)
/-! LastLayer.days: 74 steps -/
noncomputable def aec_66 : ae_Ct := (146, [(2, 1, 0, 0), (0, 0, (-2147483648), 2147483647)], some (0, (-1), 30), [(1, 12, 12), (3, 4, 16), (5, 0, 900), (6, 0, 900), (7, 0, 900), (34, 5, 6), (35, 0, 29), (36, 0, 29), (37, 0, 29), (38, 0, 29), (39, 0, 29), (67, 4, 4), (68, 5, 6), (69, 0, 29), (70, 0, 29), (71, 0, 29), (72, 0, 29), (73, 0, 29), (74, 0, 2)], [], [[]], false, 7)
theorem aet_66 : ae_CT aec_66 := ae_con_ok ae_rok_ok ae_fok_ok (fuel := 100000) (cts := [aec_64, aec_65]) (mcs := []) (cus := []) (sps := []) (af_kc (by decide +kernel)) (ae_ctc aet_64 (ae_ctc aet_65 (fun _ q => absurd q List.not_mem_nil))) (fun _ q => absurd q List.not_mem_nil)
/-! LastLayer.fault: 21 steps -/
noncomputable def aec_67 : ae_Ct := (147, [(2, 1, 0, 0), (0, 0, (-2147483648), 2147483647)], some (0, (-2147483648), 2147483647), [], [], [[]], false, 0)
theorem aet_67 : ae_CT aec_67 := ae_con_ok ae_rok_ok ae_fok_ok (fuel := 100000) (cts := []) (mcs := []) (cus := []) (sps := []) (af_kc (by decide +kernel)) (fun _ q => absurd q List.not_mem_nil) (fun _ q => absurd q List.not_mem_nil)
/-! Yard.tailsOfAll: 74 steps -/
noncomputable def aec_68 : ae_Ct := (99, [(2, 8, 0, 0)], some (0, (-2147483648), 2147483647), [], [], [[]], false, 0)
theorem aet_68 : ae_CT aec_68 := ae_con_ok ae_rok_ok ae_fok_ok (fuel := 100000) (cts := []) (mcs := []) (cus := [(99, 4, ([0], [(0, 1, 0, 0, false, (-2147483648), 2147483647, (-2147483648), 2147483647), (0, 2, 0, 0, false, 0, 4, 0, 4)], [], [], 1, true)), (99, 32, ([0], [(0, 1, 0, 0, false, (-2147483648), 2147483647, (-2147483648), 2147483647), (0, 2, 0, 0, false, 0, 4, 0, 4)], [], [], 1, true))]) (sps := []) (af_kc (by decide +kernel)) (fun _ q => absurd q List.not_mem_nil) (fun _ q => absurd q List.not_mem_nil)
/-! LastLayer.many: 172 steps -/
noncomputable def aec_69 : ae_Ct := (148, [(2, 1, 0, 0), (0, 0, (-2147483648), 2147483647)], some (0, (-2147483648), 2147483647), [(1, 12, 12)], [], [[]], false, 2)
theorem aet_69 : ae_CT aec_69 := ae_con_ok ae_rok_ok ae_fok_ok (fuel := 100000) (cts := [aec_68]) (mcs := []) (cus := []) (sps := []) (af_kc (by decide +kernel)) (ae_ctc aet_68 (fun _ q => absurd q List.not_mem_nil)) (fun _ q => absurd q List.not_mem_nil)
/-! Rick.ratsInAll: 21 steps -/
noncomputable def aec_70 : ae_Ct := (36, [(2, 14, 0, 0)], some (0, (-2147483648), 2147483647), [], [], [[]], false, 0)
theorem aet_70 : ae_CT aec_70 := ae_con_ok ae_rok_ok ae_fok_ok (fuel := 100000) (cts := []) (mcs := []) (cus := [(36, 7, ([0], [(0, 1, 0, 0, false, (-2147483648), 2147483647, (-2147483648), 2147483647), (0, 2, 0, 0, false, 0, 8, 0, 8)], [], [], 1, true))]) (sps := []) (af_kc (by decide +kernel)) (fun _ q => absurd q List.not_mem_nil) (fun _ q => absurd q List.not_mem_nil)
/-! Rick.ratsInAll: 21 steps -/
noncomputable def aec_71 : ae_Ct := (36, [(2, 29, 0, 0)], some (0, (-2147483648), 2147483647), [], [], [[]], false, 0)
theorem aet_71 : ae_CT aec_71 := ae_con_ok ae_rok_ok ae_fok_ok (fuel := 100000) (cts := []) (mcs := []) (cus := [(36, 7, ([0], [(0, 1, 0, 0, false, (-2147483648), 2147483647, (-2147483648), 2147483647), (0, 2, 0, 0, false, 0, 8, 0, 8)], [], [], 1, true))]) (sps := []) (af_kc (by decide +kernel)) (fun _ q => absurd q List.not_mem_nil) (fun _ q => absurd q List.not_mem_nil)
/-! Rick.ratsInAll: 21 steps -/
noncomputable def aec_72 : ae_Ct := (36, [(2, 24, 0, 0)], some (0, (-2147483648), 2147483647), [], [], [[]], false, 0)
theorem aet_72 : ae_CT aec_72 := ae_con_ok ae_rok_ok ae_fok_ok (fuel := 100000) (cts := []) (mcs := []) (cus := [(36, 7, ([0], [(0, 1, 0, 0, false, (-2147483648), 2147483647, (-2147483648), 2147483647), (0, 2, 0, 0, false, 0, 8, 0, 8)], [], [], 1, true))]) (sps := []) (af_kc (by decide +kernel)) (fun _ q => absurd q List.not_mem_nil) (fun _ q => absurd q List.not_mem_nil)
/-! Rick.ratsInAll: 21 steps -/
noncomputable def aec_73 : ae_Ct := (36, [(2, 19, 0, 0)], some (0, (-2147483648), 2147483647), [], [], [[]], false, 0)
theorem aet_73 : ae_CT aec_73 := ae_con_ok ae_rok_ok ae_fok_ok (fuel := 100000) (cts := []) (mcs := []) (cus := [(36, 7, ([0], [(0, 1, 0, 0, false, (-2147483648), 2147483647, (-2147483648), 2147483647), (0, 2, 0, 0, false, 0, 8, 0, 8)], [], [], 1, true))]) (sps := []) (af_kc (by decide +kernel)) (fun _ q => absurd q List.not_mem_nil) (fun _ q => absurd q List.not_mem_nil)
/-! LastLayer.rick: 278 steps -/
noncomputable def aec_74 : ae_Ct := (149, [(2, 1, 0, 0), (0, 0, (-2147483648), 2147483647), (0, 0, (-2147483648), 2147483647)], some (0, (-2147483648), 2147483647), [(1, 12, 12)], [], [[]], false, 1)
theorem aet_74 : ae_CT aec_74 := ae_con_ok ae_rok_ok ae_fok_ok (fuel := 100000) (cts := [aec_70, aec_71, aec_72, aec_73]) (mcs := []) (cus := []) (sps := []) (af_kc (by decide +kernel)) (ae_ctc aet_70 (ae_ctc aet_71 (ae_ctc aet_72 (ae_ctc aet_73 (fun _ q => absurd q List.not_mem_nil))))) (fun _ q => absurd q List.not_mem_nil)
/-! LastLayer.layer: 339 steps -/
noncomputable def aec_75 : ae_Ct := (150, [(2, 1, 0, 0), (0, 0, (-2147483648), 2147483647), (0, 0, (-2147483648), 2147483647)], some (0, (-1), 2147483647), [(1, 12, 12)], [], [[]], false, 2)
theorem aet_75 : ae_CT aec_75 := ae_con_ok ae_rok_ok ae_fok_ok (fuel := 100000) (cts := []) (mcs := []) (cus := []) (sps := []) (af_kc (by decide +kernel)) (fun _ q => absurd q List.not_mem_nil) (fun _ q => absurd q List.not_mem_nil)
/-! LastLayer.side: 325 steps -/
noncomputable def aec_76 : ae_Ct := (151, [(2, 1, 0, 0), (0, 0, (-2147483648), 2147483647), (0, 0, (-2147483648), 2147483647)], some (0, (-2147483648), 2147483647), [(1, 12, 12)], [], [[]], false, 1)
theorem aet_76 : ae_CT aec_76 := ae_con_ok ae_rok_ok ae_fok_ok (fuel := 100000) (cts := []) (mcs := []) (cus := []) (sps := []) (af_kc (by decide +kernel)) (fun _ q => absurd q List.not_mem_nil) (fun _ q => absurd q List.not_mem_nil)
/-! LastLayer.dog: 210 steps -/
noncomputable def aec_77 : ae_Ct := (152, [(2, 1, 0, 0), (0, 0, (-2147483648), 2147483647), (0, 0, (-2147483648), 2147483647)], some (0, (-2147483648), 2147483647), [(1, 12, 12)], [], [[]], false, 1)
theorem aet_77 : ae_CT aec_77 := ae_con_ok ae_rok_ok ae_fok_ok (fuel := 100000) (cts := []) (mcs := []) (cus := []) (sps := []) (af_kc (by decide +kernel)) (fun _ q => absurd q List.not_mem_nil) (fun _ q => absurd q List.not_mem_nil)
/-! LastLayer.boy: 172 steps -/
noncomputable def aec_78 : ae_Ct := (153, [(2, 1, 0, 0), (0, 0, (-2147483648), 2147483647), (0, 0, (-2147483648), 2147483647)], some (0, (-2147483648), 2147483647), [(1, 12, 12)], [], [[]], false, 1)
theorem aet_78 : ae_CT aec_78 := ae_con_ok ae_rok_ok ae_fok_ok (fuel := 100000) (cts := []) (mcs := []) (cus := []) (sps := []) (af_kc (by decide +kernel)) (fun _ q => absurd q List.not_mem_nil) (fun _ q => absurd q List.not_mem_nil)
/-! LastLayer.netted: 11 steps -/
noncomputable def aec_79 : ae_Ct := (154, [(2, 1, 0, 0)], some (0, (-2147483648), 2147483647), [(1, 12, 12)], [], [[]], false, 1)
theorem aet_79 : ae_CT aec_79 := ae_con_ok ae_rok_ok ae_fok_ok (fuel := 100000) (cts := []) (mcs := []) (cus := []) (sps := []) (af_kc (by decide +kernel)) (fun _ q => absurd q List.not_mem_nil) (fun _ q => absurd q List.not_mem_nil)
/-! LastLayer.pay: 15 steps -/
noncomputable def aec_80 : ae_Ct := (155, [(2, 1, 0, 0)], some (0, (-2147483648), 2147483647), [(1, 12, 12)], [], [[]], false, 1)
theorem aet_80 : ae_CT aec_80 := ae_con_ok ae_rok_ok ae_fok_ok (fuel := 100000) (cts := [aec_68]) (mcs := []) (cus := []) (sps := []) (af_kc (by decide +kernel)) (ae_ctc aet_68 (fun _ q => absurd q List.not_mem_nil)) (fun _ q => absurd q List.not_mem_nil)
/-! LastLayer.share: 41 steps -/
noncomputable def aec_81 : ae_Ct := (156, [(2, 1, 0, 0)], some (0, 0, 1), [(1, 12, 14)], [], [[]], false, 2)
theorem aet_81 : ae_CT aec_81 := ae_con_ok ae_rok_ok ae_fok_ok (fuel := 100000) (cts := [aec_7, aec_68]) (mcs := []) (cus := []) (sps := []) (af_kc (by decide +kernel)) (ae_ctc aet_7 (ae_ctc aet_68 (fun _ q => absurd q List.not_mem_nil))) (fun _ q => absurd q List.not_mem_nil)

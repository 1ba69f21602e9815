/-! Contracts 24 to 40 -/
/-! Tape.cutWord: 480 steps -/
noncomputable def aec_24 : ae_Ct := (55, [(2, 3, 0, 0)], some (0, 1, 1), [(3, 4, 4), (3, 7, 7), (5, 0, 900), (6, 0, 900), (7, 0, 900)], [], [[]], false, 2)
theorem aet_24 : ae_CT aec_24 := ae_con_ok ae_rok_ok ae_fok_ok (fuel := 100000) (cts := [aec_23]) (mcs := []) (cus := [(55, 7, ([0, 1], [(0, 2, 0, 1, false, (-9223372036854775808), 9223372036854775807, (-9223372036854775808), 9223372036854775807), (1, 3, 7, 0, false, 0, 900, 0, 900)], [(3, 7, 7)], [], 1, true))]) (sps := []) (af_kc (by decide +kernel)) (ae_ctc aet_23 (fun _ q => absurd q List.not_mem_nil)) (fun _ q => absurd q List.not_mem_nil)
/-! Tape.cutToken: 941 steps -/
noncomputable def aec_25 : ae_Ct := (54, [(2, 3, 0, 0)], some (0, 0, 1), [(3, 4, 4), (3, 7, 7), (5, 0, 900), (6, 0, 900), (7, 0, 900)], [], [[]], false, 3)
theorem aet_25 : ae_CT aec_25 := ae_con_ok ae_rok_ok ae_fok_ok (fuel := 100000) (cts := [aec_22, aec_24]) (mcs := []) (cus := [(54, 0, ([0], [(1, 3, 7, 0, false, 0, 900, 0, 900)], [(3, 7, 7)], [], 0, true))]) (sps := []) (af_kc (by decide +kernel)) (ae_ctc aet_22 (ae_ctc aet_24 (fun _ q => absurd q List.not_mem_nil))) (fun _ q => absurd q List.not_mem_nil)
/-! Tape.advance: 150 steps -/
noncomputable def aec_26 : ae_Ct := (58, [(2, 3, 0, 0)], none, [(3, 5, 5), (3, 11, 16)], [], [[]], false, 0)
theorem aet_26 : ae_CT aec_26 := ae_con_ok ae_rok_ok ae_fok_ok (fuel := 100000) (cts := []) (mcs := []) (cus := []) (sps := []) (af_kc (by decide +kernel)) (fun _ q => absurd q List.not_mem_nil) (fun _ q => absurd q List.not_mem_nil)
/-! Tape.begin: 41 steps -/
noncomputable def aec_27 : ae_Ct := (49, [(2, 3, 0, 0), (0, 0, 0, 900)], none, [(3, 4, 7), (3, 9, 16), (5, 0, 900), (6, 0, 900), (7, 0, 900)], [], [[]], false, 4)
theorem aet_27 : ae_CT aec_27 := ae_con_ok ae_rok_ok ae_fok_ok (fuel := 100000) (cts := [aec_25, aec_26]) (mcs := []) (cus := [(49, 40, ([0, 1], [(0, 2, 0, 0, false, 0, 1, 0, 1), (0, 3, 0, 0, false, 0, 901, 0, 901)], [(3, 4, 4), (3, 7, 7), (5, 0, 900), (6, 0, 900), (7, 0, 900)], [], 1, true))]) (sps := []) (af_kc (by decide +kernel)) (ae_ctc aet_25 (ae_ctc aet_26 (fun _ q => absurd q List.not_mem_nil))) (fun _ q => absurd q List.not_mem_nil)
/-! Tape.passNumber: 156 steps -/
noncomputable def aec_28 : ae_Ct := (63, [(2, 3, 0, 0), (0, 0, 0, 0), (0, 0, (-2147483648), 2147483647)], some (0, (-1), 2147483647), [(3, 5, 5), (3, 9, 16)], [], [[]], false, 1)
theorem aet_28 : ae_CT aec_28 := ae_con_ok ae_rok_ok ae_fok_ok (fuel := 100000) (cts := [aec_26]) (mcs := []) (cus := []) (sps := []) (af_kc (by decide +kernel)) (ae_ctc aet_26 (fun _ q => absurd q List.not_mem_nil)) (fun _ q => absurd q List.not_mem_nil)
/-! YardReader.readSum: 156 steps -/
noncomputable def aec_29 : ae_Ct := (127, [(2, 40, 0, 0), (0, 0, (-2147483648), 2147483647)], some (0, 0, 1), [(3, 5, 5), (3, 9, 16), (40, 2, 2), (41, 9, 12)], [], [[]], false, 2)
theorem aet_29 : ae_CT aec_29 := ae_con_ok ae_rok_ok ae_fok_ok (fuel := 100000) (cts := [aec_26, aec_28]) (mcs := []) (cus := []) (sps := []) (af_kc (by decide +kernel)) (ae_ctc aet_26 (ae_ctc aet_28 (fun _ q => absurd q List.not_mem_nil))) (fun _ q => absurd q List.not_mem_nil)
/-! Yard.rickNamed: 60 steps -/
noncomputable def aec_30 : ae_Ct := (94, [(2, 41, 0, 0), (1, 0, (-9223372036854775808), 9223372036854775807)], some (0, (-1), 3), [], [], [[]], false, 0)
theorem aet_30 : ae_CT aec_30 := ae_con_ok ae_rok_ok ae_fok_ok (fuel := 100000) (cts := []) (mcs := []) (cus := [(94, 2, ([0, 1], [(0, 3, 0, 0, false, 0, 4, 0, 4)], [], [], 0, true))]) (sps := []) (af_kc (by decide +kernel)) (fun _ q => absurd q List.not_mem_nil) (fun _ q => absurd q List.not_mem_nil)
/-! Yard.sideNamed: 60 steps -/
noncomputable def aec_31 : ae_Ct := (95, [(2, 41, 0, 0), (1, 0, (-9223372036854775808), 9223372036854775807)], some (0, (-1), 3), [], [], [[]], false, 0)
theorem aet_31 : ae_CT aec_31 := ae_con_ok ae_rok_ok ae_fok_ok (fuel := 100000) (cts := []) (mcs := []) (cus := [(95, 2, ([0, 1], [(0, 3, 0, 0, false, 0, 4, 0, 4)], [], [], 0, true))]) (sps := []) (af_kc (by decide +kernel)) (fun _ q => absurd q List.not_mem_nil) (fun _ q => absurd q List.not_mem_nil)
/-! Yard.dogNamed: 60 steps -/
noncomputable def aec_32 : ae_Ct := (96, [(2, 41, 0, 0), (1, 0, (-9223372036854775808), 9223372036854775807)], some (0, (-1), 3), [], [], [[]], false, 0)
theorem aet_32 : ae_CT aec_32 := ae_con_ok ae_rok_ok ae_fok_ok (fuel := 100000) (cts := []) (mcs := []) (cus := [(96, 2, ([0, 1], [(0, 3, 0, 0, false, 0, 4, 0, 4)], [], [], 0, true))]) (sps := []) (af_kc (by decide +kernel)) (fun _ q => absurd q List.not_mem_nil) (fun _ q => absurd q List.not_mem_nil)
/-! Yard.boyNamed: 60 steps -/
noncomputable def aec_33 : ae_Ct := (97, [(2, 41, 0, 0), (1, 0, (-9223372036854775808), 9223372036854775807)], some (0, (-1), 3), [], [], [[]], false, 0)
theorem aet_33 : ae_CT aec_33 := ae_con_ok ae_rok_ok ae_fok_ok (fuel := 100000) (cts := []) (mcs := []) (cus := [(97, 2, ([0, 1], [(0, 3, 0, 0, false, 0, 4, 0, 4)], [], [], 0, true))]) (sps := []) (af_kc (by decide +kernel)) (fun _ q => absurd q List.not_mem_nil) (fun _ q => absurd q List.not_mem_nil)
/-! Tape.passName: 151 steps -/
noncomputable def aec_34 : ae_Ct := (64, [(2, 3, 0, 0), (0, 0, (-1), (-1))], some (0, (-1), (-1)), [(3, 9, 10)], [], [[]], false, 1)
theorem aet_34 : ae_CT aec_34 := ae_con_ok ae_rok_ok ae_fok_ok (fuel := 100000) (cts := []) (mcs := []) (cus := []) (sps := []) (af_kc (by decide +kernel)) (fun _ q => absurd q List.not_mem_nil) (fun _ q => absurd q List.not_mem_nil)
/-! Tape.passName: 65 steps -/
noncomputable def aec_35 : ae_Ct := (64, [(2, 3, 0, 0), (0, 0, 0, 0)], some (0, (-1), 0), [(3, 5, 5), (3, 9, 16)], [], [[]], false, 1)
theorem aet_35 : ae_CT aec_35 := ae_con_ok ae_rok_ok ae_fok_ok (fuel := 100000) (cts := [aec_26]) (mcs := []) (cus := []) (sps := []) (af_kc (by decide +kernel)) (ae_ctc aet_26 (fun _ q => absurd q List.not_mem_nil)) (fun _ q => absurd q List.not_mem_nil)
/-! Tape.passWord: 80 steps -/
noncomputable def aec_36 : ae_Ct := (60, [(2, 3, 0, 0), (0, 0, (-2147483648), 2147483647)], some (0, 0, 1), [(3, 5, 5), (3, 9, 16)], [], [[]], false, 1)
theorem aet_36 : ae_CT aec_36 := ae_con_ok ae_rok_ok ae_fok_ok (fuel := 100000) (cts := [aec_26]) (mcs := []) (cus := []) (sps := []) (af_kc (by decide +kernel)) (ae_ctc aet_26 (fun _ q => absurd q List.not_mem_nil)) (fun _ q => absurd q List.not_mem_nil)
/-! Tape.passName: 159 steps -/
noncomputable def aec_37 : ae_Ct := (64, [(2, 3, 0, 0), (0, 0, (-1), 3)], some (0, (-1), 3), [(3, 5, 5), (3, 9, 16)], [], [[]], false, 1)
theorem aet_37 : ae_CT aec_37 := ae_con_ok ae_rok_ok ae_fok_ok (fuel := 100000) (cts := [aec_26]) (mcs := []) (cus := []) (sps := []) (af_kc (by decide +kernel)) (ae_ctc aet_26 (fun _ q => absurd q List.not_mem_nil)) (fun _ q => absurd q List.not_mem_nil)
/-! YardReader.readBoy: 1577 steps -/
noncomputable def aec_38 : ae_Ct := (126, [(2, 40, 0, 0)], some (0, 0, 1), [(3, 5, 5), (3, 9, 16), (41, 8, 8), (51, 0, 5), (56, 0, 5), (61, 0, 5), (66, 0, 5)], [], [[]], false, 4)
theorem aet_38 : ae_CT aec_38 := ae_con_ok ae_rok_ok ae_fok_ok (fuel := 100000) (cts := [aec_26, aec_28, aec_30, aec_31, aec_32, aec_33, aec_34, aec_35, aec_36, aec_37]) (mcs := []) (cus := []) (sps := []) (af_kc (by decide +kernel)) (ae_ctc aet_26 (ae_ctc aet_28 (ae_ctc aet_30 (ae_ctc aet_31 (ae_ctc aet_32 (ae_ctc aet_33 (ae_ctc aet_34 (ae_ctc aet_35 (ae_ctc aet_36 (ae_ctc aet_37 (fun _ q => absurd q List.not_mem_nil))))))))))) (fun _ q => absurd q List.not_mem_nil)
/-! Tape.passNumber: 156 steps -/
noncomputable def aec_39 : ae_Ct := (63, [(2, 3, 0, 0), (0, 0, 1, 1), (0, 0, 20, 20)], some (0, (-1), 20), [(3, 5, 5), (3, 9, 16)], [], [[]], false, 1)
theorem aet_39 : ae_CT aec_39 := ae_con_ok ae_rok_ok ae_fok_ok (fuel := 100000) (cts := [aec_26]) (mcs := []) (cus := []) (sps := []) (af_kc (by decide +kernel)) (ae_ctc aet_26 (fun _ q => absurd q List.not_mem_nil)) (fun _ q => absurd q List.not_mem_nil)
/-! Tape.passNumber: 156 steps -/
noncomputable def aec_40 : ae_Ct := (63, [(2, 3, 0, 0), (0, 0, 1, 1), (0, 0, 200, 200)], some (0, (-1), 200), [(3, 5, 5), (3, 9, 16)], [], [[]], false, 1)
theorem aet_40 : ae_CT aec_40 := ae_con_ok ae_rok_ok ae_fok_ok (fuel := 100000) (cts := [aec_26]) (mcs := []) (cus := []) (sps := []) (af_kc (by decide +kernel)) (ae_ctc aet_26 (fun _ q => absurd q List.not_mem_nil)) (fun _ q => absurd q List.not_mem_nil)

/-! Contracts 146 to 206 -/
/-! LastLayer.bestNets: 439 steps -/
noncomputable def aec_146 : ae_Ct := (173, [(2, 1, 0, 0), (0, 0, (-2147483648), 2147483647), (0, 0, (-2147483648), 2147483647)], some (0, (-2147483648), 2147483647), [(1, 12, 12), (75, 2, 3), (76, 5, 17), (81, 0, 3), (82, 0, 2), (82, 4, 5), (83, 0, 7), (84, 0, 4), (85, 0, 5), (86, 0, 5), (87, 0, 2), (87, 4, 5), (88, 0, 7), (89, 0, 4), (90, 0, 5), (91, 0, 5), (92, 0, 2), (92, 4, 5), (93, 0, 7), (94, 0, 4), (95, 0, 5), (96, 0, 5), (97, 0, 2), (97, 4, 5), (98, 0, 7), (99, 0, 4), (100, 0, 5), (101, 0, 5)], [], [[]], false, 6)
theorem aet_146 : ae_CT aec_146 := ae_con_ok ae_rok_ok ae_fok_ok (fuel := 100000) (cts := [aec_145]) (mcs := []) (cus := []) (sps := []) (af_kc (by decide +kernel)) (ae_ctc aet_145 (fun _ q => absurd q List.not_mem_nil)) (fun _ q => absurd q List.not_mem_nil)
/-! LastLayer.netSet: 25 steps -/
noncomputable def aec_147 : ae_Ct := (174, [(2, 1, 0, 0)], some (0, (-2147483648), 2147483647), [(1, 12, 12)], [], [[]], false, 1)
theorem aet_147 : ae_CT aec_147 := ae_con_ok ae_rok_ok ae_fok_ok (fuel := 100000) (cts := []) (mcs := []) (cus := []) (sps := []) (af_kc (by decide +kernel)) (fun _ q => absurd q List.not_mem_nil) (fun _ q => absurd q List.not_mem_nil)
/-! Trial.power: 16 steps -/
noncomputable def aec_148 : ae_Ct := (76, [(2, 75, 0, 0), (0, 0, (-2147483648), 2147483647), (0, 0, (-2147483648), 2147483647)], some (0, (-2147483648), 2147483647), [], [], [[]], false, 0)
theorem aet_148 : ae_CT aec_148 := ae_con_ok ae_rok_ok ae_fok_ok (fuel := 100000) (cts := []) (mcs := []) (cus := [(76, 5, ([0, 1, 2], [(0, 3, 0, 0, false, (-2147483648), 2147483647, (-2147483648), 2147483647), (0, 4, 0, 0, false, 0, 2147483647, 0, 2147483647)], [], [], 1, true))]) (sps := []) (af_kc (by decide +kernel)) (fun _ q => absurd q List.not_mem_nil) (fun _ q => absurd q List.not_mem_nil)
/-! Trial.writeDigits: 26 steps -/
/-! Trial.writeDigits: 26 steps -/
/-! Trial.writeDigits: 26 steps -/
/-! Trial.writeDigits: 26 steps -/
/-! Trial.writeDigits: 26 steps -/
/-! Trial.writeDigits: 26 steps -/
/-! Trial.writeDigits: 26 steps -/
/-! Trial.writeDigits: 26 steps -/
/-! Trial.writeDigits: 26 steps -/
/-! Trial.writeDigits: 26 steps -/
/-! Trial.writeDigits: 26 steps -/
/-! Trial.writeDigits: 26 steps -/
/-! Trial.writeDigits: 26 steps -/
/-! Trial.writeDigits: 26 steps -/
/-! Trial.writeDigits: 26 steps -/
/-! Trial.writeDigits: 26 steps -/
/-! Trial.writeDigits: 26 steps -/
/-! Trial.writeDigits: 26 steps -/
/-! Trial.writeDigits: 26 steps -/
/-! Trial.writeDigits: 26 steps -/
/-! Trial.writeDigits: 26 steps -/
/-! Trial.writeDigits: 26 steps -/
/-! Trial.writeDigits: 26 steps -/
/-! Trial.writeDigits: 26 steps -/
/-! Trial.writeDigits: 26 steps -/
/-! Trial.writeDigits: 26 steps -/
/-! Trial.writeDigits: 26 steps -/
/-! Trial.writeDigits: 26 steps -/
/-! Trial.writeDigits: 26 steps -/
/-! Trial.writeDigits: 26 steps -/
/-! Trial.writeDigits: 26 steps -/
/-! Trial.writeDigits: 26 steps -/
/-! Trial.writeDigits: 26 steps -/
/-! Trial.writeDigits: 26 steps -/
/-! Trial.writeDigits: 26 steps -/
/-! Trial.writeDigits: 26 steps -/
/-! Trial.writeDigits: 26 steps -/
/-! Trial.writeDigits: 26 steps -/
/-! Trial.writeDigits: 26 steps -/
/-! Trial.writeDigits: 26 steps -/
/-! Trial.writeDigits: 26 steps -/
noncomputable def aec_189 : ae_Ct := (75, [(2, 75, 0, 0), (0, 0, 0, 2147483647), (0, 0, 0, 4), (0, 0, 0, 4)], none, [(106, 0, 3)], [], [[]], false, 0)
theorem aet_189 : ae_CT aec_189 := ae_con_ok ae_rok_ok ae_fok_ok (fuel := 100000) (cts := []) (mcs := []) (cus := [(75, 8, ([0, 1, 2, 3], [(0, 4, 0, 0, false, 0, 2147483647, 0, 2147483647), (0, 5, 0, 0, false, (-1), 3, (-1), 3)], [(106, 0, 3)], [], 1, false))]) (sps := []) (af_kc (by decide +kernel)) (fun _ q => absurd q List.not_mem_nil) (fun _ q => absurd q List.not_mem_nil)
/-! Trial.findPlaces: 120 steps -/
noncomputable def aec_190 : ae_Ct := (77, [(2, 75, 0, 0), (2, 8, 0, 0), (0, 0, (-2147483648), 2147483647), (0, 0, (-2147483648), 2147483647)], some (0, (-2147483648), 2147483647), [(75, 4, 4), (76, 5, 17), (81, 0, 3), (82, 0, 2), (82, 4, 5), (83, 0, 7), (84, 0, 4), (85, 0, 5), (86, 0, 5), (87, 0, 2), (87, 4, 5), (88, 0, 7), (89, 0, 4), (90, 0, 5), (91, 0, 5), (92, 0, 2), (92, 4, 5), (93, 0, 7), (94, 0, 4), (95, 0, 5), (96, 0, 5), (97, 0, 2), (97, 4, 5), (98, 0, 7), (99, 0, 4), (100, 0, 5), (101, 0, 5), (104, 0, 3), (106, 0, 3)], [], [[]], false, 5)
theorem aet_190 : ae_CT aec_190 := ae_con_ok ae_rok_ok ae_fok_ok (fuel := 100000) (cts := [aec_119, aec_143, aec_148, aec_189]) (mcs := []) (cus := [(77, 28, ([0, 1, 2, 3, 5], [(0, 4, 0, 0, false, (-2147483648), 2147483647, (-2147483648), 2147483647), (0, 6, 0, 0, false, 0, 2147483647, 0, 2147483647)], [(76, 5, 17), (81, 0, 3), (82, 0, 2), (82, 4, 5), (83, 0, 7), (84, 0, 4), (85, 0, 5), (86, 0, 5), (87, 0, 2), (87, 4, 5), (88, 0, 7), (89, 0, 4), (90, 0, 5), (91, 0, 5), (92, 0, 2), (92, 4, 5), (93, 0, 7), (94, 0, 4), (95, 0, 5), (96, 0, 5), (97, 0, 2), (97, 4, 5), (98, 0, 7), (99, 0, 4), (100, 0, 5), (101, 0, 5), (104, 0, 3), (106, 0, 3)], [], 1, true)), (77, 60, ([0, 1, 2, 3, 4, 5, 6], [(0, 7, 0, 0, false, 0, 4, 0, 4)], [(85, 1, 1), (90, 1, 1), (95, 1, 1), (100, 1, 1)], [], 0, true))]) (sps := []) (af_kc (by decide +kernel)) (ae_ctc aet_119 (ae_ctc aet_143 (ae_ctc aet_148 (ae_ctc aet_189 (fun _ q => absurd q List.not_mem_nil))))) (fun _ q => absurd q List.not_mem_nil)
/-! LastLayer.bestPlaces: 529 steps -/
noncomputable def aec_191 : ae_Ct := (175, [(2, 1, 0, 0), (0, 0, (-2147483648), 2147483647), (0, 0, (-2147483648), 2147483647)], some (0, (-2147483648), 2147483647), [(1, 12, 12), (75, 4, 4), (76, 5, 17), (81, 0, 3), (82, 0, 2), (82, 4, 5), (83, 0, 7), (84, 0, 4), (85, 0, 5), (86, 0, 5), (87, 0, 2), (87, 4, 5), (88, 0, 7), (89, 0, 4), (90, 0, 5), (91, 0, 5), (92, 0, 2), (92, 4, 5), (93, 0, 7), (94, 0, 4), (95, 0, 5), (96, 0, 5), (97, 0, 2), (97, 4, 5), (98, 0, 7), (99, 0, 4), (100, 0, 5), (101, 0, 5), (104, 0, 3), (106, 0, 3)], [], [[]], false, 6)
theorem aet_191 : ae_CT aec_191 := ae_con_ok ae_rok_ok ae_fok_ok (fuel := 100000) (cts := [aec_190]) (mcs := []) (cus := []) (sps := []) (af_kc (by decide +kernel)) (ae_ctc aet_190 (fun _ q => absurd q List.not_mem_nil)) (fun _ q => absurd q List.not_mem_nil)
/-! LastLayer.placeAt: 56 steps -/
noncomputable def aec_192 : ae_Ct := (176, [(2, 1, 0, 0), (0, 0, (-2147483648), 2147483647)], some (0, (-2147483648), 2147483647), [(1, 12, 12)], [], [[]], false, 1)
theorem aet_192 : ae_CT aec_192 := ae_con_ok ae_rok_ok ae_fok_ok (fuel := 100000) (cts := []) (mcs := []) (cus := []) (sps := []) (af_kc (by decide +kernel)) (fun _ q => absurd q List.not_mem_nil) (fun _ q => absurd q List.not_mem_nil)
/-! Trial.ricksLeft: 445 steps -/
noncomputable def aec_193 : ae_Ct := (78, [(2, 75, 0, 0), (2, 8, 0, 0)], some (0, 0, 4), [], [], [[]], false, 1)
theorem aet_193 : ae_CT aec_193 := ae_con_ok ae_rok_ok ae_fok_ok (fuel := 100000) (cts := []) (mcs := []) (cus := []) (sps := []) (af_kc (by decide +kernel)) (fun _ q => absurd q List.not_mem_nil) (fun _ q => absurd q List.not_mem_nil)
/-! Trial.isOrder: 153 steps -/
noncomputable def aec_194 : ae_Ct := (79, [(2, 75, 0, 0), (2, 8, 0, 0), (0, 0, 0, 4)], some (0, 0, 1), [], [], [[]], false, 1)
theorem aet_194 : ae_CT aec_194 := ae_con_ok ae_rok_ok ae_fok_ok (fuel := 100000) (cts := []) (mcs := []) (cus := [(79, 5, ([0, 1, 2], [(0, 3, 0, 0, false, (-2147483648), 2147483647, (-2147483648), 2147483647), (0, 4, 0, 0, false, 0, 4, 0, 4)], [], [], 1, true))]) (sps := []) (af_kc (by decide +kernel)) (fun _ q => absurd q List.not_mem_nil) (fun _ q => absurd q List.not_mem_nil)
/-! Trial.findOrder: 97 steps -/
noncomputable def aec_195 : ae_Ct := (80, [(2, 75, 0, 0), (2, 8, 0, 0), (0, 0, (-2147483648), 2147483647)], some (0, (-1), 2147483647), [(75, 6, 6), (76, 5, 17), (81, 0, 3), (82, 0, 2), (82, 4, 5), (83, 0, 7), (84, 0, 4), (85, 0, 5), (86, 0, 5), (87, 0, 2), (87, 4, 5), (88, 0, 7), (89, 0, 4), (90, 0, 5), (91, 0, 5), (92, 0, 2), (92, 4, 5), (93, 0, 7), (94, 0, 4), (95, 0, 5), (96, 0, 5), (97, 0, 2), (97, 4, 5), (98, 0, 7), (99, 0, 4), (100, 0, 5), (101, 0, 5), (105, 0, 3), (106, 0, 3)], [], [[]], false, 5)
theorem aet_195 : ae_CT aec_195 := ae_con_ok ae_rok_ok ae_fok_ok (fuel := 100000) (cts := [aec_68, aec_119, aec_131, aec_143, aec_148, aec_189, aec_193, aec_194]) (mcs := []) (cus := [(80, 28, ([0, 1, 2, 4], [(0, 3, 0, 0, false, (-1), 2147483647, (-1), 2147483647), (0, 5, 0, 0, false, 0, 2147483647, 0, 2147483647)], [(76, 5, 17), (81, 0, 3), (82, 0, 2), (82, 4, 5), (83, 0, 7), (84, 0, 4), (85, 0, 5), (86, 0, 5), (87, 0, 2), (87, 4, 5), (88, 0, 7), (89, 0, 4), (90, 0, 5), (91, 0, 5), (92, 0, 2), (92, 4, 5), (93, 0, 7), (94, 0, 4), (95, 0, 5), (96, 0, 5), (97, 0, 2), (97, 4, 5), (98, 0, 7), (99, 0, 4), (100, 0, 5), (101, 0, 5), (105, 0, 3), (106, 0, 3)], [], 1, true)), (80, 75, ([0, 1, 2, 3, 4, 5], [(0, 6, 0, 0, false, 0, 4, 0, 4)], [(76, 13, 16), (81, 0, 3), (82, 4, 4), (83, 0, 7), (84, 4, 4), (85, 4, 5), (86, 4, 5), (87, 4, 4), (88, 0, 7), (89, 4, 4), (90, 4, 5), (91, 4, 5), (92, 4, 4), (93, 0, 7), (94, 4, 4), (95, 4, 5), (96, 4, 5), (97, 4, 4), (98, 0, 7), (99, 4, 4), (100, 4, 5), (101, 4, 5)], [], 0, true))]) (sps := []) (af_kc (by decide +kernel)) (ae_ctc aet_68 (ae_ctc aet_119 (ae_ctc aet_131 (ae_ctc aet_143 (ae_ctc aet_148 (ae_ctc aet_189 (ae_ctc aet_193 (ae_ctc aet_194 (fun _ q => absurd q List.not_mem_nil))))))))) (fun _ q => absurd q List.not_mem_nil)
/-! LastLayer.bestOrder: 68 steps -/
noncomputable def aec_196 : ae_Ct := (177, [(2, 1, 0, 0), (0, 0, (-2147483648), 2147483647)], some (0, (-1), 2147483647), [(1, 12, 12), (75, 6, 6), (76, 5, 17), (81, 0, 3), (82, 0, 2), (82, 4, 5), (83, 0, 7), (84, 0, 4), (85, 0, 5), (86, 0, 5), (87, 0, 2), (87, 4, 5), (88, 0, 7), (89, 0, 4), (90, 0, 5), (91, 0, 5), (92, 0, 2), (92, 4, 5), (93, 0, 7), (94, 0, 4), (95, 0, 5), (96, 0, 5), (97, 0, 2), (97, 4, 5), (98, 0, 7), (99, 0, 4), (100, 0, 5), (101, 0, 5), (105, 0, 3), (106, 0, 3)], [], [[]], false, 6)
theorem aet_196 : ae_CT aec_196 := ae_con_ok ae_rok_ok ae_fok_ok (fuel := 100000) (cts := [aec_193, aec_195]) (mcs := []) (cus := []) (sps := []) (af_kc (by decide +kernel)) (ae_ctc aet_193 (ae_ctc aet_195 (fun _ q => absurd q List.not_mem_nil))) (fun _ q => absurd q List.not_mem_nil)
/-! LastLayer.orderAt: 56 steps -/
noncomputable def aec_197 : ae_Ct := (178, [(2, 1, 0, 0), (0, 0, (-2147483648), 2147483647)], some (0, (-2147483648), 2147483647), [(1, 12, 12)], [], [[]], false, 1)
theorem aet_197 : ae_CT aec_197 := ae_con_ok ae_rok_ok ae_fok_ok (fuel := 100000) (cts := []) (mcs := []) (cus := []) (sps := []) (af_kc (by decide +kernel)) (fun _ q => absurd q List.not_mem_nil) (fun _ q => absurd q List.not_mem_nil)
/-! Trial.findParts: 49 steps -/
noncomputable def aec_198 : ae_Ct := (81, [(2, 75, 0, 0), (2, 8, 0, 0), (0, 0, (-2147483648), 2147483647)], some (0, 1, 20), [(76, 5, 17), (81, 0, 3), (82, 0, 2), (82, 4, 5), (83, 0, 7), (84, 0, 4), (85, 0, 5), (86, 0, 5), (87, 0, 2), (87, 4, 5), (88, 0, 7), (89, 0, 4), (90, 0, 5), (91, 0, 5), (92, 0, 2), (92, 4, 5), (93, 0, 7), (94, 0, 4), (95, 0, 5), (96, 0, 5), (97, 0, 2), (97, 4, 5), (98, 0, 7), (99, 0, 4), (100, 0, 5), (101, 0, 5)], [], [[]], false, 5)
theorem aet_198 : ae_CT aec_198 := ae_con_ok ae_rok_ok ae_fok_ok (fuel := 100000) (cts := [aec_119, aec_143]) (mcs := []) (cus := [(81, 8, ([0, 1, 2], [(0, 3, 0, 0, false, (-2147483648), 2147483647, (-2147483648), 2147483647), (0, 4, 0, 0, false, 1, 20, 1, 20), (0, 5, 0, 0, false, 1, 28, 1, 28)], [(76, 5, 17), (81, 0, 3), (82, 0, 2), (82, 4, 5), (83, 0, 7), (84, 0, 4), (85, 0, 5), (86, 0, 5), (87, 0, 2), (87, 4, 5), (88, 0, 7), (89, 0, 4), (90, 0, 5), (91, 0, 5), (92, 0, 2), (92, 4, 5), (93, 0, 7), (94, 0, 4), (95, 0, 5), (96, 0, 5), (97, 0, 2), (97, 4, 5), (98, 0, 7), (99, 0, 4), (100, 0, 5), (101, 0, 5)], [], 2, true))]) (sps := []) (af_kc (by decide +kernel)) (ae_ctc aet_119 (ae_ctc aet_143 (fun _ q => absurd q List.not_mem_nil))) (fun _ q => absurd q List.not_mem_nil)
/-! LastLayer.slowly: 291 steps -/
noncomputable def aec_199 : ae_Ct := (179, [(2, 1, 0, 0), (0, 0, (-2147483648), 2147483647)], some (0, (-1), 20), [(1, 12, 12), (76, 5, 17), (81, 0, 3), (82, 0, 2), (82, 4, 5), (83, 0, 7), (84, 0, 4), (85, 0, 5), (86, 0, 5), (87, 0, 2), (87, 4, 5), (88, 0, 7), (89, 0, 4), (90, 0, 5), (91, 0, 5), (92, 0, 2), (92, 4, 5), (93, 0, 7), (94, 0, 4), (95, 0, 5), (96, 0, 5), (97, 0, 2), (97, 4, 5), (98, 0, 7), (99, 0, 4), (100, 0, 5), (101, 0, 5)], [], [[]], false, 6)
theorem aet_199 : ae_CT aec_199 := ae_con_ok ae_rok_ok ae_fok_ok (fuel := 100000) (cts := [aec_198]) (mcs := []) (cus := []) (sps := []) (af_kc (by decide +kernel)) (ae_ctc aet_198 (fun _ q => absurd q List.not_mem_nil)) (fun _ q => absurd q List.not_mem_nil)
/-! Trial.findDearest: 129 steps -/
noncomputable def aec_200 : ae_Ct := (82, [(2, 75, 0, 0), (2, 8, 0, 0), (0, 0, (-2147483648), 2147483647), (0, 0, (-2147483648), 2147483647)], some (0, 0, 3), [(76, 5, 17), (81, 0, 3), (82, 0, 2), (82, 4, 5), (83, 0, 7), (84, 0, 4), (85, 0, 5), (86, 0, 5), (87, 0, 2), (87, 4, 5), (88, 0, 7), (89, 0, 4), (90, 0, 5), (91, 0, 5), (92, 0, 2), (92, 4, 5), (93, 0, 7), (94, 0, 4), (95, 0, 5), (96, 0, 5), (97, 0, 2), (97, 4, 5), (98, 0, 7), (99, 0, 4), (100, 0, 5), (101, 0, 5)], [], [[]], false, 5)
theorem aet_200 : ae_CT aec_200 := ae_con_ok ae_rok_ok ae_fok_ok (fuel := 100000) (cts := [aec_119, aec_143]) (mcs := []) (cus := [(82, 9, ([0, 1, 2, 3], [(0, 4, 0, 0, false, (-1), 2147483647, (-1), 2147483647), (0, 5, 0, 0, false, 0, 3, 0, 3), (0, 6, 0, 0, false, 0, 4, 0, 4)], [(76, 5, 17), (81, 0, 3), (82, 0, 2), (82, 4, 5), (83, 0, 7), (84, 0, 4), (85, 0, 5), (86, 0, 5), (87, 0, 2), (87, 4, 5), (88, 0, 7), (89, 0, 4), (90, 0, 5), (91, 0, 5), (92, 0, 2), (92, 4, 5), (93, 0, 7), (94, 0, 4), (95, 0, 5), (96, 0, 5), (97, 0, 2), (97, 4, 5), (98, 0, 7), (99, 0, 4), (100, 0, 5), (101, 0, 5)], [], 2, true))]) (sps := []) (af_kc (by decide +kernel)) (ae_ctc aet_119 (ae_ctc aet_143 (fun _ q => absurd q List.not_mem_nil))) (fun _ q => absurd q List.not_mem_nil)
/-! LastLayer.dearest: 481 steps -/
noncomputable def aec_201 : ae_Ct := (180, [(2, 1, 0, 0), (0, 0, (-2147483648), 2147483647), (0, 0, (-2147483648), 2147483647)], some (0, (-1), 3), [(1, 12, 12), (76, 5, 17), (81, 0, 3), (82, 0, 2), (82, 4, 5), (83, 0, 7), (84, 0, 4), (85, 0, 5), (86, 0, 5), (87, 0, 2), (87, 4, 5), (88, 0, 7), (89, 0, 4), (90, 0, 5), (91, 0, 5), (92, 0, 2), (92, 4, 5), (93, 0, 7), (94, 0, 4), (95, 0, 5), (96, 0, 5), (97, 0, 2), (97, 4, 5), (98, 0, 7), (99, 0, 4), (100, 0, 5), (101, 0, 5)], [], [[]], false, 6)
theorem aet_201 : ae_CT aec_201 := ae_con_ok ae_rok_ok ae_fok_ok (fuel := 100000) (cts := [aec_200]) (mcs := []) (cus := []) (sps := []) (af_kc (by decide +kernel)) (ae_ctc aet_200 (fun _ q => absurd q List.not_mem_nil)) (fun _ q => absurd q List.not_mem_nil)
/-! LastLayer.proudest: 159 steps -/
/-! LastLayer.tired: 11 steps -/
/-! LastLayer.rickStatus: 52 steps -/
/-! Rick.ratsInAll: 21 steps -/
noncomputable def aec_205 : ae_Ct := (36, [(2, 102, 0, 0)], some (0, (-2147483648), 2147483647), [], [], [[]], false, 0)
theorem aet_205 : ae_CT aec_205 := ae_con_ok ae_rok_ok ae_fok_ok (fuel := 100000) (cts := []) (mcs := []) (cus := [(36, 7, ([0], [(0, 1, 0, 0, false, (-2147483648), 2147483647, (-2147483648), 2147483647), (0, 2, 0, 0, false, 0, 8, 0, 8)], [], [], 1, true))]) (sps := []) (af_kc (by decide +kernel)) (fun _ q => absurd q List.not_mem_nil) (fun _ q => absurd q List.not_mem_nil)
/-! Rick.grow: 44 steps -/
noncomputable def aec_206 : ae_Ct := (41, [(2, 102, 0, 0), (0, 0, (-2147483648), 2147483647)], some (0, (-2147483648), 2147483647), [(103, 0, 7)], [], [[]], false, 1)
theorem aet_206 : ae_CT aec_206 := ae_con_ok ae_rok_ok ae_fok_ok (fuel := 100000) (cts := []) (mcs := []) (cus := [(41, 7, ([0, 1], [(0, 2, 0, 0, false, (-2147483648), 2147483647, (-2147483648), 2147483647), (0, 3, 0, 0, false, 0, 8, 0, 8)], [(103, 0, 7)], [], 1, true))]) (sps := []) (af_kc (by decide +kernel)) (fun _ q => absurd q List.not_mem_nil) (fun _ q => absurd q List.not_mem_nil)

/-! Contracts 41 to 48 -/
/-! YardReader.readDog: 1729 steps -/
def aec_41 : ae_Ct := (125, [(2, 40, 0, 0)], some (0, 0, 1), [(3, 5, 5), (3, 9, 16), (41, 7, 7), (50, 0, 5), (55, 0, 5), (60, 0, 5), (65, 0, 5)], [], [[]], false, 4)
theorem aet_41 : ae_CT aec_41 := ae_con_ok ae_rok_ok ae_fok_ok (fuel := 100000) (cts := [aec_26, aec_30, aec_31, aec_32, aec_33, aec_34, aec_35, aec_36, aec_37, aec_39, aec_40]) (mcs := []) (cus := []) (sps := []) (by decide +kernel) (ae_ctc aet_26 (ae_ctc aet_30 (ae_ctc aet_31 (ae_ctc aet_32 (ae_ctc aet_33 (ae_ctc aet_34 (ae_ctc aet_35 (ae_ctc aet_36 (ae_ctc aet_37 (ae_ctc aet_39 (ae_ctc aet_40 (fun _ q => absurd q List.not_mem_nil)))))))))))) (fun _ q => absurd q List.not_mem_nil)
/-! YardReader.readSide: 1358 steps -/
def aec_42 : ae_Ct := (123, [(2, 40, 0, 0)], some (0, 0, 1), [(3, 5, 5), (3, 9, 16), (41, 6, 6), (49, 0, 4), (54, 0, 4), (59, 0, 4), (64, 0, 4)], [], [[]], false, 3)
theorem aet_42 : ae_CT aec_42 := ae_con_ok ae_rok_ok ae_fok_ok (fuel := 100000) (cts := [aec_26, aec_28, aec_30, aec_31, aec_32, aec_33, aec_34, aec_35, aec_36, aec_37]) (mcs := []) (cus := []) (sps := []) (by decide +kernel) (ae_ctc aet_26 (ae_ctc aet_28 (ae_ctc aet_30 (ae_ctc aet_31 (ae_ctc aet_32 (ae_ctc aet_33 (ae_ctc aet_34 (ae_ctc aet_35 (ae_ctc aet_36 (ae_ctc aet_37 (fun _ q => absurd q List.not_mem_nil))))))))))) (fun _ q => absurd q List.not_mem_nil)
/-! YardReader.readLayers: 195 steps -/
def aec_43 : ae_Ct := (122, [(2, 40, 0, 0), (2, 47, 0, 0)], some (0, 0, 1), [(3, 5, 5), (3, 9, 16), (47, 5, 5), (48, 0, 7)], [], [[]], false, 2)
theorem aet_43 : ae_CT aec_43 := ae_con_ok ae_rok_ok ae_fok_ok (fuel := 100000) (cts := [aec_28]) (mcs := []) (cus := [(122, 2, ([0, 1], [(0, 2, 0, 0, false, 0, 8, 0, 8)], [(3, 5, 5), (3, 9, 16), (47, 5, 5), (48, 0, 7)], [], 0, true))]) (sps := []) (by decide +kernel) (ae_ctc aet_28 (fun _ q => absurd q List.not_mem_nil)) (fun _ q => absurd q List.not_mem_nil)
/-! YardReader.readLayers: 195 steps -/
def aec_44 : ae_Ct := (122, [(2, 40, 0, 0), (2, 62, 0, 0)], some (0, 0, 1), [(3, 5, 5), (3, 9, 16), (62, 5, 5), (63, 0, 7)], [], [[]], false, 2)
theorem aet_44 : ae_CT aec_44 := ae_con_ok ae_rok_ok ae_fok_ok (fuel := 100000) (cts := [aec_28]) (mcs := []) (cus := [(122, 2, ([0, 1], [(0, 2, 0, 0, false, 0, 8, 0, 8)], [(3, 5, 5), (3, 9, 16), (62, 5, 5), (63, 0, 7)], [], 0, true))]) (sps := []) (by decide +kernel) (ae_ctc aet_28 (fun _ q => absurd q List.not_mem_nil)) (fun _ q => absurd q List.not_mem_nil)
/-! YardReader.readLayers: 195 steps -/
def aec_45 : ae_Ct := (122, [(2, 40, 0, 0), (2, 57, 0, 0)], some (0, 0, 1), [(3, 5, 5), (3, 9, 16), (57, 5, 5), (58, 0, 7)], [], [[]], false, 2)
theorem aet_45 : ae_CT aec_45 := ae_con_ok ae_rok_ok ae_fok_ok (fuel := 100000) (cts := [aec_28]) (mcs := []) (cus := [(122, 2, ([0, 1], [(0, 2, 0, 0, false, 0, 8, 0, 8)], [(3, 5, 5), (3, 9, 16), (57, 5, 5), (58, 0, 7)], [], 0, true))]) (sps := []) (by decide +kernel) (ae_ctc aet_28 (fun _ q => absurd q List.not_mem_nil)) (fun _ q => absurd q List.not_mem_nil)
/-! YardReader.readLayers: 195 steps -/
def aec_46 : ae_Ct := (122, [(2, 40, 0, 0), (2, 52, 0, 0)], some (0, 0, 1), [(3, 5, 5), (3, 9, 16), (52, 5, 5), (53, 0, 7)], [], [[]], false, 2)
theorem aet_46 : ae_CT aec_46 := ae_con_ok ae_rok_ok ae_fok_ok (fuel := 100000) (cts := [aec_28]) (mcs := []) (cus := [(122, 2, ([0, 1], [(0, 2, 0, 0, false, 0, 8, 0, 8)], [(3, 5, 5), (3, 9, 16), (52, 5, 5), (53, 0, 7)], [], 0, true))]) (sps := []) (by decide +kernel) (ae_ctc aet_28 (fun _ q => absurd q List.not_mem_nil)) (fun _ q => absurd q List.not_mem_nil)
/-! YardReader.readRick: 780 steps -/
def aec_47 : ae_Ct := (121, [(2, 40, 0, 0)], some (0, 0, 1), [(3, 5, 5), (3, 9, 16), (41, 5, 5), (47, 0, 2), (47, 4, 5), (48, 0, 7), (52, 0, 2), (52, 4, 5), (53, 0, 7), (57, 0, 2), (57, 4, 5), (58, 0, 7), (62, 0, 2), (62, 4, 5), (63, 0, 7)], [], [[]], false, 3)
theorem aet_47 : ae_CT aec_47 := ae_con_ok ae_rok_ok ae_fok_ok (fuel := 100000) (cts := [aec_26, aec_28, aec_30, aec_31, aec_32, aec_33, aec_34, aec_35, aec_36, aec_43, aec_44, aec_45, aec_46]) (mcs := []) (cus := []) (sps := []) (by decide +kernel) (ae_ctc aet_26 (ae_ctc aet_28 (ae_ctc aet_30 (ae_ctc aet_31 (ae_ctc aet_32 (ae_ctc aet_33 (ae_ctc aet_34 (ae_ctc aet_35 (ae_ctc aet_36 (ae_ctc aet_43 (ae_ctc aet_44 (ae_ctc aet_45 (ae_ctc aet_46 (fun _ q => absurd q List.not_mem_nil)))))))))))))) (fun _ q => absurd q List.not_mem_nil)
/-! Tape.passSign: 80 steps -/
def aec_48 : ae_Ct := (61, [(2, 3, 0, 0), (0, 0, (-2147483648), 2147483647)], some (0, 0, 1), [(3, 5, 5), (3, 9, 16)], [], [[]], false, 1)
theorem aet_48 : ae_CT aec_48 := ae_con_ok ae_rok_ok ae_fok_ok (fuel := 100000) (cts := [aec_26]) (mcs := []) (cus := []) (sps := []) (by decide +kernel) (ae_ctc aet_26 (fun _ q => absurd q List.not_mem_nil)) (fun _ q => absurd q List.not_mem_nil)

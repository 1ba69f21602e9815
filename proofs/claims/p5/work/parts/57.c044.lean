/-! Contracts 44 to 60 -/
/-! Yard.rickNamed: 60 steps -/
def aec_44 : ae_Ct := (94, [(2, 8, 0, 0), (1, 0, (-9223372036854775808), 9223372036854775807)], some (0, (-1), 3), [], [], [[]], false, 0)
theorem aet_44 : ae_CT aec_44 := ae_con_ok ae_rok_ok ae_fok_ok (fuel := 100000) (cts := []) (mcs := []) (cus := [(94, 2, ([0, 1], [(0, 3, 0, 0, false, 0, 4, 0, 4)], [], [], 0, true))]) (sps := []) (by decide +kernel) (fun _ q => absurd q List.not_mem_nil) (fun _ q => absurd q List.not_mem_nil)
/-! Yard.dogNamed: 60 steps -/
def aec_45 : ae_Ct := (96, [(2, 8, 0, 0), (1, 0, (-9223372036854775808), 9223372036854775807)], some (0, (-1), 3), [], [], [[]], false, 0)
theorem aet_45 : ae_CT aec_45 := ae_con_ok ae_rok_ok ae_fok_ok (fuel := 100000) (cts := []) (mcs := []) (cus := [(96, 2, ([0, 1], [(0, 3, 0, 0, false, 0, 4, 0, 4)], [], [], 0, true))]) (sps := []) (by decide +kernel) (fun _ q => absurd q List.not_mem_nil) (fun _ q => absurd q List.not_mem_nil)
/-! DaysReader.readTest: 3309 steps -/
def aec_46 : ae_Ct := (17, [(2, 67, 0, 0), (0, 0, 0, 29)], some (0, 0, 1), [(3, 5, 5), (3, 9, 16), (69, 0, 29), (70, 0, 29), (71, 0, 29), (72, 0, 29)], [], [[]], false, 3)
theorem aet_46 : ae_CT aec_46 := ae_con_ok ae_rok_ok ae_fok_ok (fuel := 100000) (cts := [aec_26, aec_44, aec_45]) (mcs := []) (cus := []) (sps := []) (by decide +kernel) (ae_ctc aet_26 (ae_ctc aet_44 (ae_ctc aet_45 (fun _ q => absurd q List.not_mem_nil)))) (fun _ q => absurd q List.not_mem_nil)
/-! Yard.sideNamed: 60 steps -/
def aec_47 : ae_Ct := (95, [(2, 8, 0, 0), (1, 0, (-9223372036854775808), 9223372036854775807)], some (0, (-1), 3), [], [], [[]], false, 0)
theorem aet_47 : ae_CT aec_47 := ae_con_ok ae_rok_ok ae_fok_ok (fuel := 100000) (cts := []) (mcs := []) (cus := [(95, 2, ([0, 1], [(0, 3, 0, 0, false, 0, 4, 0, 4)], [], [], 0, true))]) (sps := []) (by decide +kernel) (fun _ q => absurd q List.not_mem_nil) (fun _ q => absurd q List.not_mem_nil)
/-! DaysReader.readMove: 1058 steps -/
def aec_48 : ae_Ct := (16, [(2, 67, 0, 0), (0, 0, 0, 29)], some (0, 0, 1), [(3, 5, 5), (3, 9, 16), (70, 0, 29), (71, 0, 29)], [], [[]], false, 3)
theorem aet_48 : ae_CT aec_48 := ae_con_ok ae_rok_ok ae_fok_ok (fuel := 100000) (cts := [aec_26, aec_45, aec_47]) (mcs := []) (cus := []) (sps := []) (by decide +kernel) (ae_ctc aet_26 (ae_ctc aet_45 (ae_ctc aet_47 (fun _ q => absurd q List.not_mem_nil)))) (fun _ q => absurd q List.not_mem_nil)
/-! DaysReader.readRest: 788 steps -/
def aec_49 : ae_Ct := (13, [(2, 67, 0, 0), (0, 0, 0, 29), (0, 0, 20, 28)], some (0, 0, 1), [(3, 5, 5), (3, 9, 16), (69, 0, 29), (70, 0, 29), (71, 0, 29), (72, 0, 29)], [], [[]], false, 4)
theorem aet_49 : ae_CT aec_49 := ae_con_ok ae_rok_ok ae_fok_ok (fuel := 100000) (cts := [aec_26, aec_46, aec_47, aec_48]) (mcs := []) (cus := []) (sps := []) (by decide +kernel) (ae_ctc aet_26 (ae_ctc aet_46 (ae_ctc aet_47 (ae_ctc aet_48 (fun _ q => absurd q List.not_mem_nil))))) (fun _ q => absurd q List.not_mem_nil)
/-! DaysReader.readRest: 243 steps -/
def aec_50 : ae_Ct := (13, [(2, 67, 0, 0), (0, 0, 0, 29), (0, 0, 29, 29)], some (0, 0, 1), [(3, 5, 5), (3, 9, 16), (71, 0, 29)], [], [[]], false, 3)
theorem aet_50 : ae_CT aec_50 := ae_con_ok ae_rok_ok ae_fok_ok (fuel := 100000) (cts := [aec_26]) (mcs := []) (cus := []) (sps := []) (by decide +kernel) (ae_ctc aet_26 (fun _ q => absurd q List.not_mem_nil)) (fun _ q => absurd q List.not_mem_nil)
/-! DaysReader.readRest: 4 steps -/
def aec_51 : ae_Ct := (13, [(2, 67, 0, 0), (0, 0, 0, 29), (0, 0, 31, 31)], some (0, 1, 1), [], [], [[]], false, 0)
theorem aet_51 : ae_CT aec_51 := ae_con_ok ae_rok_ok ae_fok_ok (fuel := 100000) (cts := []) (mcs := []) (cus := []) (sps := []) (by decide +kernel) (fun _ q => absurd q List.not_mem_nil) (fun _ q => absurd q List.not_mem_nil)
/-! DaysReader.readRest: 290 steps -/
def aec_52 : ae_Ct := (13, [(2, 67, 0, 0), (0, 0, 0, 29), (0, 0, 6, 6)], some (0, 0, 1), [(3, 5, 5), (3, 9, 16), (70, 0, 29)], [], [[]], false, 3)
theorem aet_52 : ae_CT aec_52 := ae_con_ok ae_rok_ok ae_fok_ok (fuel := 100000) (cts := [aec_26, aec_47]) (mcs := []) (cus := []) (sps := []) (by decide +kernel) (ae_ctc aet_26 (ae_ctc aet_47 (fun _ q => absurd q List.not_mem_nil))) (fun _ q => absurd q List.not_mem_nil)
/-! DaysReader.readRest: 537 steps -/
def aec_53 : ae_Ct := (13, [(2, 67, 0, 0), (0, 0, 0, 29), (0, 0, 16, 20)], some (0, 0, 1), [(3, 5, 5), (3, 9, 16), (70, 0, 29), (71, 0, 29)], [], [[]], false, 3)
theorem aet_53 : ae_CT aec_53 := ae_con_ok ae_rok_ok ae_fok_ok (fuel := 100000) (cts := [aec_26, aec_44]) (mcs := []) (cus := []) (sps := []) (by decide +kernel) (ae_ctc aet_26 (ae_ctc aet_44 (fun _ q => absurd q List.not_mem_nil))) (fun _ q => absurd q List.not_mem_nil)
/-! DaysReader.readStep: 3089 steps -/
def aec_54 : ae_Ct := (11, [(2, 67, 0, 0)], some (0, 0, 1), [(3, 5, 5), (3, 9, 16), (67, 4, 4), (68, 5, 5), (69, 0, 29), (70, 0, 29), (71, 0, 29), (72, 0, 29), (73, 0, 29), (74, 0, 2)], [], [[]], false, 5)
theorem aet_54 : ae_CT aec_54 := ae_con_ok ae_rok_ok ae_fok_ok (fuel := 100000) (cts := [aec_26, aec_49, aec_50, aec_51, aec_52, aec_53]) (mcs := []) (cus := []) (sps := []) (by decide +kernel) (ae_ctc aet_26 (ae_ctc aet_49 (ae_ctc aet_50 (ae_ctc aet_51 (ae_ctc aet_52 (ae_ctc aet_53 (fun _ q => absurd q List.not_mem_nil))))))) (fun _ q => absurd q List.not_mem_nil)
/-! DaysReader.readText: 472 steps -/
def aec_55 : ae_Ct := (9, [(2, 67, 0, 0), (0, 0, 0, 300)], some (0, 0, 1), [(3, 4, 7), (3, 9, 16), (5, 0, 900), (6, 0, 900), (7, 0, 900), (67, 4, 4), (68, 5, 6), (69, 0, 29), (70, 0, 29), (71, 0, 29), (72, 0, 29), (73, 0, 29), (74, 0, 2)], [], [[]], false, 6)
theorem aet_55 : ae_CT aec_55 := ae_con_ok ae_rok_ok ae_fok_ok (fuel := 100000) (cts := [aec_26, aec_27, aec_54]) (mcs := []) (cus := [(9, 22, ([0, 1], [(0, 2, 0, 0, false, 0, 385, 0, 385)], [(3, 5, 5), (3, 9, 16), (67, 4, 4), (68, 5, 6), (69, 0, 29), (70, 0, 29), (71, 0, 29), (72, 0, 29), (73, 0, 29), (74, 0, 2)], [], 0, true))]) (sps := []) (by decide +kernel) (ae_ctc aet_26 (ae_ctc aet_27 (ae_ctc aet_54 (fun _ q => absurd q List.not_mem_nil)))) (fun _ q => absurd q List.not_mem_nil)
/-! Days.copyFrom: 49 steps -/
def aec_56 : ae_Ct := (7, [(2, 34, 0, 0), (2, 68, 0, 0)], none, [(34, 5, 6), (35, 0, 29), (36, 0, 29), (37, 0, 29), (38, 0, 29), (39, 0, 29)], [], [[]], false, 1)
theorem aet_56 : ae_CT aec_56 := ae_con_ok ae_rok_ok ae_fok_ok (fuel := 100000) (cts := []) (mcs := []) (cus := []) (sps := []) (by decide +kernel) (fun _ q => absurd q List.not_mem_nil) (fun _ q => absurd q List.not_mem_nil)
/-! LastLayer.days: 74 steps -/
def aec_57 : ae_Ct := (146, [(2, 1, 0, 0), (0, 0, (-2147483648), 2147483647)], some (0, (-1), 30), [(1, 12, 12), (3, 4, 16), (5, 0, 900), (6, 0, 900), (7, 0, 900), (34, 5, 6), (35, 0, 29), (36, 0, 29), (37, 0, 29), (38, 0, 29), (39, 0, 29), (67, 4, 4), (68, 5, 6), (69, 0, 29), (70, 0, 29), (71, 0, 29), (72, 0, 29), (73, 0, 29), (74, 0, 2)], [], [[]], false, 7)
theorem aet_57 : ae_CT aec_57 := ae_con_ok ae_rok_ok ae_fok_ok (fuel := 100000) (cts := [aec_55, aec_56]) (mcs := []) (cus := []) (sps := []) (by decide +kernel) (ae_ctc aet_55 (ae_ctc aet_56 (fun _ q => absurd q List.not_mem_nil))) (fun _ q => absurd q List.not_mem_nil)
/-! LastLayer.fault: 21 steps -/
def aec_58 : ae_Ct := (147, [(2, 1, 0, 0), (0, 0, (-2147483648), 2147483647)], some (0, (-2147483648), 2147483647), [], [], [[]], false, 0)
theorem aet_58 : ae_CT aec_58 := ae_con_ok ae_rok_ok ae_fok_ok (fuel := 100000) (cts := []) (mcs := []) (cus := []) (sps := []) (by decide +kernel) (fun _ q => absurd q List.not_mem_nil) (fun _ q => absurd q List.not_mem_nil)
/-! Yard.tailsOfAll: 74 steps -/
def aec_59 : ae_Ct := (99, [(2, 8, 0, 0)], some (0, (-2147483648), 2147483647), [], [], [[]], false, 0)
theorem aet_59 : ae_CT aec_59 := ae_con_ok ae_rok_ok ae_fok_ok (fuel := 100000) (cts := []) (mcs := []) (cus := [(99, 4, ([0], [(0, 1, 0, 0, false, (-2147483648), 2147483647, (-2147483648), 2147483647), (0, 2, 0, 0, false, 0, 4, 0, 4)], [], [], 1, true)), (99, 32, ([0], [(0, 1, 0, 0, false, (-2147483648), 2147483647, (-2147483648), 2147483647), (0, 2, 0, 0, false, 0, 4, 0, 4)], [], [], 1, true))]) (sps := []) (by decide +kernel) (fun _ q => absurd q List.not_mem_nil) (fun _ q => absurd q List.not_mem_nil)
/-! LastLayer.many: 172 steps -/
def aec_60 : ae_Ct := (148, [(2, 1, 0, 0), (0, 0, (-2147483648), 2147483647)], some (0, (-2147483648), 2147483647), [(1, 12, 12)], [], [[]], false, 2)
theorem aet_60 : ae_CT aec_60 := ae_con_ok ae_rok_ok ae_fok_ok (fuel := 100000) (cts := [aec_59]) (mcs := []) (cus := []) (sps := []) (by decide +kernel) (ae_ctc aet_59 (fun _ q => absurd q List.not_mem_nil)) (fun _ q => absurd q List.not_mem_nil)

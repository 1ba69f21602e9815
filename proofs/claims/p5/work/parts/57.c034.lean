/-! Contracts 34 to 35 -/
/-! YardReader.readDog: 18781 steps -/
def aec_34 : ae_Ct := (125, [(2, 40, 0, 0)], some (0, 0, 1), [(3, 5, 5), (3, 9, 16), (41, 7, 7), (50, 0, 5), (55, 0, 5), (60, 0, 5), (65, 0, 5)], [], [[]], false, 4)
theorem aet_34 : ae_CT aec_34 := ae_con_ok ae_rok_ok ae_fok_ok (fuel := 100000) (cts := [aec_26, aec_29, aec_30, aec_31, aec_32]) (mcs := []) (cus := []) (sps := []) (by decide +kernel) (ae_ctc aet_26 (ae_ctc aet_29 (ae_ctc aet_30 (ae_ctc aet_31 (ae_ctc aet_32 (fun _ q => absurd q List.not_mem_nil)))))) (fun _ q => absurd q List.not_mem_nil)
/-! YardReader.readSide: 6552 steps -/
def aec_35 : ae_Ct := (123, [(2, 40, 0, 0)], some (0, 0, 1), [(3, 5, 5), (3, 9, 16), (41, 6, 6), (49, 0, 4), (54, 0, 4), (59, 0, 4), (64, 0, 4)], [], [[]], false, 3)
theorem aet_35 : ae_CT aec_35 := ae_con_ok ae_rok_ok ae_fok_ok (fuel := 100000) (cts := [aec_26, aec_29, aec_30, aec_31, aec_32]) (mcs := []) (cus := []) (sps := []) (by decide +kernel) (ae_ctc aet_26 (ae_ctc aet_29 (ae_ctc aet_30 (ae_ctc aet_31 (ae_ctc aet_32 (fun _ q => absurd q List.not_mem_nil)))))) (fun _ q => absurd q List.not_mem_nil)

/-! Contracts 146 to 206 -/
/-! LastLayer.bestNets: 439 steps -/
def aec_146 : ae_Ct := (173, [(2, 1, 0, 0), (0, 0, (-2147483648), 2147483647), (0, 0, (-2147483648), 2147483647)], some (0, (-2147483648), 2147483647), [(1, 12, 12), (75, 2, 3), (76, 5, 17), (81, 0, 3), (82, 0, 2), (82, 4, 5), (83, 0, 7), (84, 0, 4), (85, 0, 5), (86, 0, 5), (87, 0, 2), (87, 4, 5), (88, 0, 7), (89, 0, 4), (90, 0, 5), (91, 0, 5), (92, 0, 2), (92, 4, 5), (93, 0, 7), (94, 0, 4), (95, 0, 5), (96, 0, 5), (97, 0, 2), (97, 4, 5), (98, 0, 7), (99, 0, 4), (100, 0, 5), (101, 0, 5)], [], [[]], false, 6)
theorem aet_146 : ae_CT aec_146 := ae_con_ok ae_rok_ok ae_fok_ok (fuel := 100000) (cts := [aec_145]) (mcs := []) (cus := []) (sps := []) (by decide +kernel) (ae_ctc aet_145 (fun _ q => absurd q List.not_mem_nil)) (fun _ q => absurd q List.not_mem_nil)
/-! LastLayer.netSet: 25 steps -/
def aec_147 : ae_Ct := (174, [(2, 1, 0, 0)], some (0, (-2147483648), 2147483647), [(1, 12, 12)], [], [[]], false, 1)
theorem aet_147 : ae_CT aec_147 := ae_con_ok ae_rok_ok ae_fok_ok (fuel := 100000) (cts := []) (mcs := []) (cus := []) (sps := []) (by decide +kernel) (fun _ q => absurd q List.not_mem_nil) (fun _ q => absurd q List.not_mem_nil)
/-! Trial.power: 16 steps -/
def aec_148 : ae_Ct := (76, [(2, 75, 0, 0), (0, 0, (-2147483648), 2147483647), (0, 0, (-2147483648), 2147483647)], some (0, (-2147483648), 2147483647), [], [], [[]], false, 0)
theorem aet_148 : ae_CT aec_148 := ae_con_ok ae_rok_ok ae_fok_ok (fuel := 100000) (cts := []) (mcs := []) (cus := [(76, 5, ([0, 1, 2], [(0, 3, 0, 0, false, (-2147483648), 2147483647, (-2147483648), 2147483647), (0, 4, 0, 0, false, 0, 2147483647, 0, 2147483647)], [], [], 1, true))]) (sps := []) (by decide +kernel) (fun _ q => absurd q List.not_mem_nil) (fun _ q => absurd q List.not_mem_nil)
/-! Trial.writeDigits: 26 steps -/
def aec_149 : ae_Ct := (75, [(2, 75, 0, 0), (0, 0, 0, 0), (0, 0, 0, 4), (0, 0, 0, 4)], none, [(106, 0, 3)], [], [[]], false, 0)
theorem aet_149 : ae_CT aec_149 := ae_con_ok ae_rok_ok ae_fok_ok (fuel := 100000) (cts := []) (mcs := []) (cus := [(75, 8, ([0, 1, 2, 3], [(0, 4, 0, 0, false, 0, 0, 0, 0), (0, 5, 0, 0, false, (-1), 3, (-1), 3)], [(106, 0, 3)], [], 1, false))]) (sps := []) (by decide +kernel) (fun _ q => absurd q List.not_mem_nil) (fun _ q => absurd q List.not_mem_nil)
/-! Trial.writeDigits: 26 steps -/
def aec_150 : ae_Ct := (75, [(2, 75, 0, 0), (0, 0, 0, 1), (0, 0, 0, 4), (0, 0, 0, 4)], none, [(106, 0, 3)], [], [[]], false, 0)
theorem aet_150 : ae_CT aec_150 := ae_con_ok ae_rok_ok ae_fok_ok (fuel := 100000) (cts := []) (mcs := []) (cus := [(75, 8, ([0, 1, 2, 3], [(0, 4, 0, 0, false, 0, 1, 0, 1), (0, 5, 0, 0, false, (-1), 3, (-1), 3)], [(106, 0, 3)], [], 1, false))]) (sps := []) (by decide +kernel) (fun _ q => absurd q List.not_mem_nil) (fun _ q => absurd q List.not_mem_nil)
/-! Trial.writeDigits: 26 steps -/
def aec_151 : ae_Ct := (75, [(2, 75, 0, 0), (0, 0, 0, 2), (0, 0, 0, 4), (0, 0, 0, 4)], none, [(106, 0, 3)], [], [[]], false, 0)
theorem aet_151 : ae_CT aec_151 := ae_con_ok ae_rok_ok ae_fok_ok (fuel := 100000) (cts := []) (mcs := []) (cus := [(75, 8, ([0, 1, 2, 3], [(0, 4, 0, 0, false, 0, 2, 0, 2), (0, 5, 0, 0, false, (-1), 3, (-1), 3)], [(106, 0, 3)], [], 1, false))]) (sps := []) (by decide +kernel) (fun _ q => absurd q List.not_mem_nil) (fun _ q => absurd q List.not_mem_nil)
/-! Trial.writeDigits: 26 steps -/
def aec_152 : ae_Ct := (75, [(2, 75, 0, 0), (0, 0, 0, 3), (0, 0, 0, 4), (0, 0, 0, 4)], none, [(106, 0, 3)], [], [[]], false, 0)
theorem aet_152 : ae_CT aec_152 := ae_con_ok ae_rok_ok ae_fok_ok (fuel := 100000) (cts := []) (mcs := []) (cus := [(75, 8, ([0, 1, 2, 3], [(0, 4, 0, 0, false, 0, 3, 0, 3), (0, 5, 0, 0, false, (-1), 3, (-1), 3)], [(106, 0, 3)], [], 1, false))]) (sps := []) (by decide +kernel) (fun _ q => absurd q List.not_mem_nil) (fun _ q => absurd q List.not_mem_nil)
/-! Trial.writeDigits: 26 steps -/
def aec_153 : ae_Ct := (75, [(2, 75, 0, 0), (0, 0, 0, 4), (0, 0, 0, 4), (0, 0, 0, 4)], none, [(106, 0, 3)], [], [[]], false, 0)
theorem aet_153 : ae_CT aec_153 := ae_con_ok ae_rok_ok ae_fok_ok (fuel := 100000) (cts := []) (mcs := []) (cus := [(75, 8, ([0, 1, 2, 3], [(0, 4, 0, 0, false, 0, 4, 0, 4), (0, 5, 0, 0, false, (-1), 3, (-1), 3)], [(106, 0, 3)], [], 1, false))]) (sps := []) (by decide +kernel) (fun _ q => absurd q List.not_mem_nil) (fun _ q => absurd q List.not_mem_nil)
/-! Trial.writeDigits: 26 steps -/
def aec_154 : ae_Ct := (75, [(2, 75, 0, 0), (0, 0, 0, 5), (0, 0, 0, 4), (0, 0, 0, 4)], none, [(106, 0, 3)], [], [[]], false, 0)
theorem aet_154 : ae_CT aec_154 := ae_con_ok ae_rok_ok ae_fok_ok (fuel := 100000) (cts := []) (mcs := []) (cus := [(75, 8, ([0, 1, 2, 3], [(0, 4, 0, 0, false, 0, 5, 0, 5), (0, 5, 0, 0, false, (-1), 3, (-1), 3)], [(106, 0, 3)], [], 1, false))]) (sps := []) (by decide +kernel) (fun _ q => absurd q List.not_mem_nil) (fun _ q => absurd q List.not_mem_nil)
/-! Trial.writeDigits: 26 steps -/
def aec_155 : ae_Ct := (75, [(2, 75, 0, 0), (0, 0, 0, 6), (0, 0, 0, 4), (0, 0, 0, 4)], none, [(106, 0, 3)], [], [[]], false, 0)
theorem aet_155 : ae_CT aec_155 := ae_con_ok ae_rok_ok ae_fok_ok (fuel := 100000) (cts := []) (mcs := []) (cus := [(75, 8, ([0, 1, 2, 3], [(0, 4, 0, 0, false, 0, 6, 0, 6), (0, 5, 0, 0, false, (-1), 3, (-1), 3)], [(106, 0, 3)], [], 1, false))]) (sps := []) (by decide +kernel) (fun _ q => absurd q List.not_mem_nil) (fun _ q => absurd q List.not_mem_nil)
/-! Trial.writeDigits: 26 steps -/
def aec_156 : ae_Ct := (75, [(2, 75, 0, 0), (0, 0, 0, 7), (0, 0, 0, 4), (0, 0, 0, 4)], none, [(106, 0, 3)], [], [[]], false, 0)
theorem aet_156 : ae_CT aec_156 := ae_con_ok ae_rok_ok ae_fok_ok (fuel := 100000) (cts := []) (mcs := []) (cus := [(75, 8, ([0, 1, 2, 3], [(0, 4, 0, 0, false, 0, 7, 0, 7), (0, 5, 0, 0, false, (-1), 3, (-1), 3)], [(106, 0, 3)], [], 1, false))]) (sps := []) (by decide +kernel) (fun _ q => absurd q List.not_mem_nil) (fun _ q => absurd q List.not_mem_nil)
/-! Trial.writeDigits: 26 steps -/
def aec_157 : ae_Ct := (75, [(2, 75, 0, 0), (0, 0, 0, 8), (0, 0, 0, 4), (0, 0, 0, 4)], none, [(106, 0, 3)], [], [[]], false, 0)
theorem aet_157 : ae_CT aec_157 := ae_con_ok ae_rok_ok ae_fok_ok (fuel := 100000) (cts := []) (mcs := []) (cus := [(75, 8, ([0, 1, 2, 3], [(0, 4, 0, 0, false, 0, 8, 0, 8), (0, 5, 0, 0, false, (-1), 3, (-1), 3)], [(106, 0, 3)], [], 1, false))]) (sps := []) (by decide +kernel) (fun _ q => absurd q List.not_mem_nil) (fun _ q => absurd q List.not_mem_nil)
/-! Trial.writeDigits: 26 steps -/
def aec_158 : ae_Ct := (75, [(2, 75, 0, 0), (0, 0, 0, 9), (0, 0, 0, 4), (0, 0, 0, 4)], none, [(106, 0, 3)], [], [[]], false, 0)
theorem aet_158 : ae_CT aec_158 := ae_con_ok ae_rok_ok ae_fok_ok (fuel := 100000) (cts := []) (mcs := []) (cus := [(75, 8, ([0, 1, 2, 3], [(0, 4, 0, 0, false, 0, 9, 0, 9), (0, 5, 0, 0, false, (-1), 3, (-1), 3)], [(106, 0, 3)], [], 1, false))]) (sps := []) (by decide +kernel) (fun _ q => absurd q List.not_mem_nil) (fun _ q => absurd q List.not_mem_nil)
/-! Trial.writeDigits: 26 steps -/
def aec_159 : ae_Ct := (75, [(2, 75, 0, 0), (0, 0, 0, 10), (0, 0, 0, 4), (0, 0, 0, 4)], none, [(106, 0, 3)], [], [[]], false, 0)
theorem aet_159 : ae_CT aec_159 := ae_con_ok ae_rok_ok ae_fok_ok (fuel := 100000) (cts := []) (mcs := []) (cus := [(75, 8, ([0, 1, 2, 3], [(0, 4, 0, 0, false, 0, 10, 0, 10), (0, 5, 0, 0, false, (-1), 3, (-1), 3)], [(106, 0, 3)], [], 1, false))]) (sps := []) (by decide +kernel) (fun _ q => absurd q List.not_mem_nil) (fun _ q => absurd q List.not_mem_nil)
/-! Trial.writeDigits: 26 steps -/
def aec_160 : ae_Ct := (75, [(2, 75, 0, 0), (0, 0, 0, 11), (0, 0, 0, 4), (0, 0, 0, 4)], none, [(106, 0, 3)], [], [[]], false, 0)
theorem aet_160 : ae_CT aec_160 := ae_con_ok ae_rok_ok ae_fok_ok (fuel := 100000) (cts := []) (mcs := []) (cus := [(75, 8, ([0, 1, 2, 3], [(0, 4, 0, 0, false, 0, 11, 0, 11), (0, 5, 0, 0, false, (-1), 3, (-1), 3)], [(106, 0, 3)], [], 1, false))]) (sps := []) (by decide +kernel) (fun _ q => absurd q List.not_mem_nil) (fun _ q => absurd q List.not_mem_nil)
/-! Trial.writeDigits: 26 steps -/
def aec_161 : ae_Ct := (75, [(2, 75, 0, 0), (0, 0, 0, 12), (0, 0, 0, 4), (0, 0, 0, 4)], none, [(106, 0, 3)], [], [[]], false, 0)
theorem aet_161 : ae_CT aec_161 := ae_con_ok ae_rok_ok ae_fok_ok (fuel := 100000) (cts := []) (mcs := []) (cus := [(75, 8, ([0, 1, 2, 3], [(0, 4, 0, 0, false, 0, 12, 0, 12), (0, 5, 0, 0, false, (-1), 3, (-1), 3)], [(106, 0, 3)], [], 1, false))]) (sps := []) (by decide +kernel) (fun _ q => absurd q List.not_mem_nil) (fun _ q => absurd q List.not_mem_nil)
/-! Trial.writeDigits: 26 steps -/
def aec_162 : ae_Ct := (75, [(2, 75, 0, 0), (0, 0, 0, 13), (0, 0, 0, 4), (0, 0, 0, 4)], none, [(106, 0, 3)], [], [[]], false, 0)
theorem aet_162 : ae_CT aec_162 := ae_con_ok ae_rok_ok ae_fok_ok (fuel := 100000) (cts := []) (mcs := []) (cus := [(75, 8, ([0, 1, 2, 3], [(0, 4, 0, 0, false, 0, 13, 0, 13), (0, 5, 0, 0, false, (-1), 3, (-1), 3)], [(106, 0, 3)], [], 1, false))]) (sps := []) (by decide +kernel) (fun _ q => absurd q List.not_mem_nil) (fun _ q => absurd q List.not_mem_nil)
/-! Trial.writeDigits: 26 steps -/
def aec_163 : ae_Ct := (75, [(2, 75, 0, 0), (0, 0, 0, 14), (0, 0, 0, 4), (0, 0, 0, 4)], none, [(106, 0, 3)], [], [[]], false, 0)
theorem aet_163 : ae_CT aec_163 := ae_con_ok ae_rok_ok ae_fok_ok (fuel := 100000) (cts := []) (mcs := []) (cus := [(75, 8, ([0, 1, 2, 3], [(0, 4, 0, 0, false, 0, 14, 0, 14), (0, 5, 0, 0, false, (-1), 3, (-1), 3)], [(106, 0, 3)], [], 1, false))]) (sps := []) (by decide +kernel) (fun _ q => absurd q List.not_mem_nil) (fun _ q => absurd q List.not_mem_nil)
/-! Trial.writeDigits: 26 steps -/
def aec_164 : ae_Ct := (75, [(2, 75, 0, 0), (0, 0, 0, 15), (0, 0, 0, 4), (0, 0, 0, 4)], none, [(106, 0, 3)], [], [[]], false, 0)
theorem aet_164 : ae_CT aec_164 := ae_con_ok ae_rok_ok ae_fok_ok (fuel := 100000) (cts := []) (mcs := []) (cus := [(75, 8, ([0, 1, 2, 3], [(0, 4, 0, 0, false, 0, 15, 0, 15), (0, 5, 0, 0, false, (-1), 3, (-1), 3)], [(106, 0, 3)], [], 1, false))]) (sps := []) (by decide +kernel) (fun _ q => absurd q List.not_mem_nil) (fun _ q => absurd q List.not_mem_nil)
/-! Trial.writeDigits: 26 steps -/
def aec_165 : ae_Ct := (75, [(2, 75, 0, 0), (0, 0, 0, 16), (0, 0, 0, 4), (0, 0, 0, 4)], none, [(106, 0, 3)], [], [[]], false, 0)
theorem aet_165 : ae_CT aec_165 := ae_con_ok ae_rok_ok ae_fok_ok (fuel := 100000) (cts := []) (mcs := []) (cus := [(75, 8, ([0, 1, 2, 3], [(0, 4, 0, 0, false, 0, 16, 0, 16), (0, 5, 0, 0, false, (-1), 3, (-1), 3)], [(106, 0, 3)], [], 1, false))]) (sps := []) (by decide +kernel) (fun _ q => absurd q List.not_mem_nil) (fun _ q => absurd q List.not_mem_nil)
/-! Trial.writeDigits: 26 steps -/
def aec_166 : ae_Ct := (75, [(2, 75, 0, 0), (0, 0, 0, 20), (0, 0, 0, 4), (0, 0, 0, 4)], none, [(106, 0, 3)], [], [[]], false, 0)
theorem aet_166 : ae_CT aec_166 := ae_con_ok ae_rok_ok ae_fok_ok (fuel := 100000) (cts := []) (mcs := []) (cus := [(75, 8, ([0, 1, 2, 3], [(0, 4, 0, 0, false, 0, 20, 0, 20), (0, 5, 0, 0, false, (-1), 3, (-1), 3)], [(106, 0, 3)], [], 1, false))]) (sps := []) (by decide +kernel) (fun _ q => absurd q List.not_mem_nil) (fun _ q => absurd q List.not_mem_nil)
/-! Trial.writeDigits: 26 steps -/
def aec_167 : ae_Ct := (75, [(2, 75, 0, 0), (0, 0, 0, 28), (0, 0, 0, 4), (0, 0, 0, 4)], none, [(106, 0, 3)], [], [[]], false, 0)
theorem aet_167 : ae_CT aec_167 := ae_con_ok ae_rok_ok ae_fok_ok (fuel := 100000) (cts := []) (mcs := []) (cus := [(75, 8, ([0, 1, 2, 3], [(0, 4, 0, 0, false, 0, 28, 0, 28), (0, 5, 0, 0, false, (-1), 3, (-1), 3)], [(106, 0, 3)], [], 1, false))]) (sps := []) (by decide +kernel) (fun _ q => absurd q List.not_mem_nil) (fun _ q => absurd q List.not_mem_nil)
/-! Trial.writeDigits: 26 steps -/
def aec_168 : ae_Ct := (75, [(2, 75, 0, 0), (0, 0, 0, 29), (0, 0, 0, 4), (0, 0, 0, 4)], none, [(106, 0, 3)], [], [[]], false, 0)
theorem aet_168 : ae_CT aec_168 := ae_con_ok ae_rok_ok ae_fok_ok (fuel := 100000) (cts := []) (mcs := []) (cus := [(75, 8, ([0, 1, 2, 3], [(0, 4, 0, 0, false, 0, 29, 0, 29), (0, 5, 0, 0, false, (-1), 3, (-1), 3)], [(106, 0, 3)], [], 1, false))]) (sps := []) (by decide +kernel) (fun _ q => absurd q List.not_mem_nil) (fun _ q => absurd q List.not_mem_nil)
/-! Trial.writeDigits: 26 steps -/
def aec_169 : ae_Ct := (75, [(2, 75, 0, 0), (0, 0, 0, 30), (0, 0, 0, 4), (0, 0, 0, 4)], none, [(106, 0, 3)], [], [[]], false, 0)
theorem aet_169 : ae_CT aec_169 := ae_con_ok ae_rok_ok ae_fok_ok (fuel := 100000) (cts := []) (mcs := []) (cus := [(75, 8, ([0, 1, 2, 3], [(0, 4, 0, 0, false, 0, 30, 0, 30), (0, 5, 0, 0, false, (-1), 3, (-1), 3)], [(106, 0, 3)], [], 1, false))]) (sps := []) (by decide +kernel) (fun _ q => absurd q List.not_mem_nil) (fun _ q => absurd q List.not_mem_nil)
/-! Trial.writeDigits: 26 steps -/
def aec_170 : ae_Ct := (75, [(2, 75, 0, 0), (0, 0, 0, 31), (0, 0, 0, 4), (0, 0, 0, 4)], none, [(106, 0, 3)], [], [[]], false, 0)
theorem aet_170 : ae_CT aec_170 := ae_con_ok ae_rok_ok ae_fok_ok (fuel := 100000) (cts := []) (mcs := []) (cus := [(75, 8, ([0, 1, 2, 3], [(0, 4, 0, 0, false, 0, 31, 0, 31), (0, 5, 0, 0, false, (-1), 3, (-1), 3)], [(106, 0, 3)], [], 1, false))]) (sps := []) (by decide +kernel) (fun _ q => absurd q List.not_mem_nil) (fun _ q => absurd q List.not_mem_nil)
/-! Trial.writeDigits: 26 steps -/
def aec_171 : ae_Ct := (75, [(2, 75, 0, 0), (0, 0, 0, 60), (0, 0, 0, 4), (0, 0, 0, 4)], none, [(106, 0, 3)], [], [[]], false, 0)
theorem aet_171 : ae_CT aec_171 := ae_con_ok ae_rok_ok ae_fok_ok (fuel := 100000) (cts := []) (mcs := []) (cus := [(75, 8, ([0, 1, 2, 3], [(0, 4, 0, 0, false, 0, 60, 0, 60), (0, 5, 0, 0, false, (-1), 3, (-1), 3)], [(106, 0, 3)], [], 1, false))]) (sps := []) (by decide +kernel) (fun _ q => absurd q List.not_mem_nil) (fun _ q => absurd q List.not_mem_nil)
/-! Trial.writeDigits: 26 steps -/
def aec_172 : ae_Ct := (75, [(2, 75, 0, 0), (0, 0, 0, 61), (0, 0, 0, 4), (0, 0, 0, 4)], none, [(106, 0, 3)], [], [[]], false, 0)
theorem aet_172 : ae_CT aec_172 := ae_con_ok ae_rok_ok ae_fok_ok (fuel := 100000) (cts := []) (mcs := []) (cus := [(75, 8, ([0, 1, 2, 3], [(0, 4, 0, 0, false, 0, 61, 0, 61), (0, 5, 0, 0, false, (-1), 3, (-1), 3)], [(106, 0, 3)], [], 1, false))]) (sps := []) (by decide +kernel) (fun _ q => absurd q List.not_mem_nil) (fun _ q => absurd q List.not_mem_nil)
/-! Trial.writeDigits: 26 steps -/
def aec_173 : ae_Ct := (75, [(2, 75, 0, 0), (0, 0, 0, 99), (0, 0, 0, 4), (0, 0, 0, 4)], none, [(106, 0, 3)], [], [[]], false, 0)
theorem aet_173 : ae_CT aec_173 := ae_con_ok ae_rok_ok ae_fok_ok (fuel := 100000) (cts := []) (mcs := []) (cus := [(75, 8, ([0, 1, 2, 3], [(0, 4, 0, 0, false, 0, 99, 0, 99), (0, 5, 0, 0, false, (-1), 3, (-1), 3)], [(106, 0, 3)], [], 1, false))]) (sps := []) (by decide +kernel) (fun _ q => absurd q List.not_mem_nil) (fun _ q => absurd q List.not_mem_nil)
/-! Trial.writeDigits: 26 steps -/
def aec_174 : ae_Ct := (75, [(2, 75, 0, 0), (0, 0, 0, 100), (0, 0, 0, 4), (0, 0, 0, 4)], none, [(106, 0, 3)], [], [[]], false, 0)
theorem aet_174 : ae_CT aec_174 := ae_con_ok ae_rok_ok ae_fok_ok (fuel := 100000) (cts := []) (mcs := []) (cus := [(75, 8, ([0, 1, 2, 3], [(0, 4, 0, 0, false, 0, 100, 0, 100), (0, 5, 0, 0, false, (-1), 3, (-1), 3)], [(106, 0, 3)], [], 1, false))]) (sps := []) (by decide +kernel) (fun _ q => absurd q List.not_mem_nil) (fun _ q => absurd q List.not_mem_nil)
/-! Trial.writeDigits: 26 steps -/
def aec_175 : ae_Ct := (75, [(2, 75, 0, 0), (0, 0, 0, 109), (0, 0, 0, 4), (0, 0, 0, 4)], none, [(106, 0, 3)], [], [[]], false, 0)
theorem aet_175 : ae_CT aec_175 := ae_con_ok ae_rok_ok ae_fok_ok (fuel := 100000) (cts := []) (mcs := []) (cus := [(75, 8, ([0, 1, 2, 3], [(0, 4, 0, 0, false, 0, 109, 0, 109), (0, 5, 0, 0, false, (-1), 3, (-1), 3)], [(106, 0, 3)], [], 1, false))]) (sps := []) (by decide +kernel) (fun _ q => absurd q List.not_mem_nil) (fun _ q => absurd q List.not_mem_nil)
/-! Trial.writeDigits: 26 steps -/
def aec_176 : ae_Ct := (75, [(2, 75, 0, 0), (0, 0, 0, 127), (0, 0, 0, 4), (0, 0, 0, 4)], none, [(106, 0, 3)], [], [[]], false, 0)
theorem aet_176 : ae_CT aec_176 := ae_con_ok ae_rok_ok ae_fok_ok (fuel := 100000) (cts := []) (mcs := []) (cus := [(75, 8, ([0, 1, 2, 3], [(0, 4, 0, 0, false, 0, 127, 0, 127), (0, 5, 0, 0, false, (-1), 3, (-1), 3)], [(106, 0, 3)], [], 1, false))]) (sps := []) (by decide +kernel) (fun _ q => absurd q List.not_mem_nil) (fun _ q => absurd q List.not_mem_nil)
/-! Trial.writeDigits: 26 steps -/
def aec_177 : ae_Ct := (75, [(2, 75, 0, 0), (0, 0, 0, 239), (0, 0, 0, 4), (0, 0, 0, 4)], none, [(106, 0, 3)], [], [[]], false, 0)
theorem aet_177 : ae_CT aec_177 := ae_con_ok ae_rok_ok ae_fok_ok (fuel := 100000) (cts := []) (mcs := []) (cus := [(75, 8, ([0, 1, 2, 3], [(0, 4, 0, 0, false, 0, 239, 0, 239), (0, 5, 0, 0, false, (-1), 3, (-1), 3)], [(106, 0, 3)], [], 1, false))]) (sps := []) (by decide +kernel) (fun _ q => absurd q List.not_mem_nil) (fun _ q => absurd q List.not_mem_nil)
/-! Trial.writeDigits: 26 steps -/
def aec_178 : ae_Ct := (75, [(2, 75, 0, 0), (0, 0, 0, 240), (0, 0, 0, 4), (0, 0, 0, 4)], none, [(106, 0, 3)], [], [[]], false, 0)
theorem aet_178 : ae_CT aec_178 := ae_con_ok ae_rok_ok ae_fok_ok (fuel := 100000) (cts := []) (mcs := []) (cus := [(75, 8, ([0, 1, 2, 3], [(0, 4, 0, 0, false, 0, 240, 0, 240), (0, 5, 0, 0, false, (-1), 3, (-1), 3)], [(106, 0, 3)], [], 1, false))]) (sps := []) (by decide +kernel) (fun _ q => absurd q List.not_mem_nil) (fun _ q => absurd q List.not_mem_nil)
/-! Trial.writeDigits: 26 steps -/
def aec_179 : ae_Ct := (75, [(2, 75, 0, 0), (0, 0, 0, 300), (0, 0, 0, 4), (0, 0, 0, 4)], none, [(106, 0, 3)], [], [[]], false, 0)
theorem aet_179 : ae_CT aec_179 := ae_con_ok ae_rok_ok ae_fok_ok (fuel := 100000) (cts := []) (mcs := []) (cus := [(75, 8, ([0, 1, 2, 3], [(0, 4, 0, 0, false, 0, 300, 0, 300), (0, 5, 0, 0, false, (-1), 3, (-1), 3)], [(106, 0, 3)], [], 1, false))]) (sps := []) (by decide +kernel) (fun _ q => absurd q List.not_mem_nil) (fun _ q => absurd q List.not_mem_nil)
/-! Trial.writeDigits: 26 steps -/
def aec_180 : ae_Ct := (75, [(2, 75, 0, 0), (0, 0, 0, 385), (0, 0, 0, 4), (0, 0, 0, 4)], none, [(106, 0, 3)], [], [[]], false, 0)
theorem aet_180 : ae_CT aec_180 := ae_con_ok ae_rok_ok ae_fok_ok (fuel := 100000) (cts := []) (mcs := []) (cus := [(75, 8, ([0, 1, 2, 3], [(0, 4, 0, 0, false, 0, 385, 0, 385), (0, 5, 0, 0, false, (-1), 3, (-1), 3)], [(106, 0, 3)], [], 1, false))]) (sps := []) (by decide +kernel) (fun _ q => absurd q List.not_mem_nil) (fun _ q => absurd q List.not_mem_nil)
/-! Trial.writeDigits: 26 steps -/
def aec_181 : ae_Ct := (75, [(2, 75, 0, 0), (0, 0, 0, 436), (0, 0, 0, 4), (0, 0, 0, 4)], none, [(106, 0, 3)], [], [[]], false, 0)
theorem aet_181 : ae_CT aec_181 := ae_con_ok ae_rok_ok ae_fok_ok (fuel := 100000) (cts := []) (mcs := []) (cus := [(75, 8, ([0, 1, 2, 3], [(0, 4, 0, 0, false, 0, 436, 0, 436), (0, 5, 0, 0, false, (-1), 3, (-1), 3)], [(106, 0, 3)], [], 1, false))]) (sps := []) (by decide +kernel) (fun _ q => absurd q List.not_mem_nil) (fun _ q => absurd q List.not_mem_nil)
/-! Trial.writeDigits: 26 steps -/
def aec_182 : ae_Ct := (75, [(2, 75, 0, 0), (0, 0, 0, 899), (0, 0, 0, 4), (0, 0, 0, 4)], none, [(106, 0, 3)], [], [[]], false, 0)
theorem aet_182 : ae_CT aec_182 := ae_con_ok ae_rok_ok ae_fok_ok (fuel := 100000) (cts := []) (mcs := []) (cus := [(75, 8, ([0, 1, 2, 3], [(0, 4, 0, 0, false, 0, 899, 0, 899), (0, 5, 0, 0, false, (-1), 3, (-1), 3)], [(106, 0, 3)], [], 1, false))]) (sps := []) (by decide +kernel) (fun _ q => absurd q List.not_mem_nil) (fun _ q => absurd q List.not_mem_nil)
/-! Trial.writeDigits: 26 steps -/
def aec_183 : ae_Ct := (75, [(2, 75, 0, 0), (0, 0, 0, 900), (0, 0, 0, 4), (0, 0, 0, 4)], none, [(106, 0, 3)], [], [[]], false, 0)
theorem aet_183 : ae_CT aec_183 := ae_con_ok ae_rok_ok ae_fok_ok (fuel := 100000) (cts := []) (mcs := []) (cus := [(75, 8, ([0, 1, 2, 3], [(0, 4, 0, 0, false, 0, 900, 0, 900), (0, 5, 0, 0, false, (-1), 3, (-1), 3)], [(106, 0, 3)], [], 1, false))]) (sps := []) (by decide +kernel) (fun _ q => absurd q List.not_mem_nil) (fun _ q => absurd q List.not_mem_nil)
/-! Trial.writeDigits: 26 steps -/
def aec_184 : ae_Ct := (75, [(2, 75, 0, 0), (0, 0, 0, 901), (0, 0, 0, 4), (0, 0, 0, 4)], none, [(106, 0, 3)], [], [[]], false, 0)
theorem aet_184 : ae_CT aec_184 := ae_con_ok ae_rok_ok ae_fok_ok (fuel := 100000) (cts := []) (mcs := []) (cus := [(75, 8, ([0, 1, 2, 3], [(0, 4, 0, 0, false, 0, 901, 0, 901), (0, 5, 0, 0, false, (-1), 3, (-1), 3)], [(106, 0, 3)], [], 1, false))]) (sps := []) (by decide +kernel) (fun _ q => absurd q List.not_mem_nil) (fun _ q => absurd q List.not_mem_nil)
/-! Trial.writeDigits: 26 steps -/
def aec_185 : ae_Ct := (75, [(2, 75, 0, 0), (0, 0, 0, 999), (0, 0, 0, 4), (0, 0, 0, 4)], none, [(106, 0, 3)], [], [[]], false, 0)
theorem aet_185 : ae_CT aec_185 := ae_con_ok ae_rok_ok ae_fok_ok (fuel := 100000) (cts := []) (mcs := []) (cus := [(75, 8, ([0, 1, 2, 3], [(0, 4, 0, 0, false, 0, 999, 0, 999), (0, 5, 0, 0, false, (-1), 3, (-1), 3)], [(106, 0, 3)], [], 1, false))]) (sps := []) (by decide +kernel) (fun _ q => absurd q List.not_mem_nil) (fun _ q => absurd q List.not_mem_nil)
/-! Trial.writeDigits: 26 steps -/
def aec_186 : ae_Ct := (75, [(2, 75, 0, 0), (0, 0, 0, 1000), (0, 0, 0, 4), (0, 0, 0, 4)], none, [(106, 0, 3)], [], [[]], false, 0)
theorem aet_186 : ae_CT aec_186 := ae_con_ok ae_rok_ok ae_fok_ok (fuel := 100000) (cts := []) (mcs := []) (cus := [(75, 8, ([0, 1, 2, 3], [(0, 4, 0, 0, false, 0, 1000, 0, 1000), (0, 5, 0, 0, false, (-1), 3, (-1), 3)], [(106, 0, 3)], [], 1, false))]) (sps := []) (by decide +kernel) (fun _ q => absurd q List.not_mem_nil) (fun _ q => absurd q List.not_mem_nil)
/-! Trial.writeDigits: 26 steps -/
def aec_187 : ae_Ct := (75, [(2, 75, 0, 0), (0, 0, 0, 1925), (0, 0, 0, 4), (0, 0, 0, 4)], none, [(106, 0, 3)], [], [[]], false, 0)
theorem aet_187 : ae_CT aec_187 := ae_con_ok ae_rok_ok ae_fok_ok (fuel := 100000) (cts := []) (mcs := []) (cus := [(75, 8, ([0, 1, 2, 3], [(0, 4, 0, 0, false, 0, 1925, 0, 1925), (0, 5, 0, 0, false, (-1), 3, (-1), 3)], [(106, 0, 3)], [], 1, false))]) (sps := []) (by decide +kernel) (fun _ q => absurd q List.not_mem_nil) (fun _ q => absurd q List.not_mem_nil)
/-! Trial.writeDigits: 26 steps -/
def aec_188 : ae_Ct := (75, [(2, 75, 0, 0), (0, 0, 0, 9999), (0, 0, 0, 4), (0, 0, 0, 4)], none, [(106, 0, 3)], [], [[]], false, 0)
theorem aet_188 : ae_CT aec_188 := ae_con_ok ae_rok_ok ae_fok_ok (fuel := 100000) (cts := []) (mcs := []) (cus := [(75, 8, ([0, 1, 2, 3], [(0, 4, 0, 0, false, 0, 9999, 0, 9999), (0, 5, 0, 0, false, (-1), 3, (-1), 3)], [(106, 0, 3)], [], 1, false))]) (sps := []) (by decide +kernel) (fun _ q => absurd q List.not_mem_nil) (fun _ q => absurd q List.not_mem_nil)
/-! Trial.writeDigits: 26 steps -/
def aec_189 : ae_Ct := (75, [(2, 75, 0, 0), (0, 0, 0, 2147483647), (0, 0, 0, 4), (0, 0, 0, 4)], none, [(106, 0, 3)], [], [[]], false, 0)
theorem aet_189 : ae_CT aec_189 := ae_con_ok ae_rok_ok ae_fok_ok (fuel := 100000) (cts := []) (mcs := []) (cus := [(75, 8, ([0, 1, 2, 3], [(0, 4, 0, 0, false, 0, 2147483647, 0, 2147483647), (0, 5, 0, 0, false, (-1), 3, (-1), 3)], [(106, 0, 3)], [], 1, false))]) (sps := []) (by decide +kernel) (fun _ q => absurd q List.not_mem_nil) (fun _ q => absurd q List.not_mem_nil)
/-! Trial.findPlaces: 120 steps -/
def aec_190 : ae_Ct := (77, [(2, 75, 0, 0), (2, 8, 0, 0), (0, 0, (-2147483648), 2147483647), (0, 0, (-2147483648), 2147483647)], some (0, (-2147483648), 2147483647), [(75, 4, 4), (76, 5, 17), (81, 0, 3), (82, 0, 2), (82, 4, 5), (83, 0, 7), (84, 0, 4), (85, 0, 5), (86, 0, 5), (87, 0, 2), (87, 4, 5), (88, 0, 7), (89, 0, 4), (90, 0, 5), (91, 0, 5), (92, 0, 2), (92, 4, 5), (93, 0, 7), (94, 0, 4), (95, 0, 5), (96, 0, 5), (97, 0, 2), (97, 4, 5), (98, 0, 7), (99, 0, 4), (100, 0, 5), (101, 0, 5), (104, 0, 3), (106, 0, 3)], [], [[]], false, 5)
theorem aet_190 : ae_CT aec_190 := ae_con_ok ae_rok_ok ae_fok_ok (fuel := 100000) (cts := [aec_119, aec_143, aec_148, aec_189]) (mcs := []) (cus := [(77, 28, ([0, 1, 2, 3, 5], [(0, 4, 0, 0, false, (-2147483648), 2147483647, (-2147483648), 2147483647), (0, 6, 0, 0, false, 0, 2147483647, 0, 2147483647)], [(76, 5, 17), (81, 0, 3), (82, 0, 2), (82, 4, 5), (83, 0, 7), (84, 0, 4), (85, 0, 5), (86, 0, 5), (87, 0, 2), (87, 4, 5), (88, 0, 7), (89, 0, 4), (90, 0, 5), (91, 0, 5), (92, 0, 2), (92, 4, 5), (93, 0, 7), (94, 0, 4), (95, 0, 5), (96, 0, 5), (97, 0, 2), (97, 4, 5), (98, 0, 7), (99, 0, 4), (100, 0, 5), (101, 0, 5), (104, 0, 3), (106, 0, 3)], [], 1, true)), (77, 60, ([0, 1, 2, 3, 4, 5, 6], [(0, 7, 0, 0, false, 0, 4, 0, 4)], [(85, 1, 1), (90, 1, 1), (95, 1, 1), (100, 1, 1)], [], 0, true))]) (sps := []) (by decide +kernel) (ae_ctc aet_119 (ae_ctc aet_143 (ae_ctc aet_148 (ae_ctc aet_189 (fun _ q => absurd q List.not_mem_nil))))) (fun _ q => absurd q List.not_mem_nil)
/-! LastLayer.bestPlaces: 529 steps -/
def aec_191 : ae_Ct := (175, [(2, 1, 0, 0), (0, 0, (-2147483648), 2147483647), (0, 0, (-2147483648), 2147483647)], some (0, (-2147483648), 2147483647), [(1, 12, 12), (75, 4, 4), (76, 5, 17), (81, 0, 3), (82, 0, 2), (82, 4, 5), (83, 0, 7), (84, 0, 4), (85, 0, 5), (86, 0, 5), (87, 0, 2), (87, 4, 5), (88, 0, 7), (89, 0, 4), (90, 0, 5), (91, 0, 5), (92, 0, 2), (92, 4, 5), (93, 0, 7), (94, 0, 4), (95, 0, 5), (96, 0, 5), (97, 0, 2), (97, 4, 5), (98, 0, 7), (99, 0, 4), (100, 0, 5), (101, 0, 5), (104, 0, 3), (106, 0, 3)], [], [[]], false, 6)
theorem aet_191 : ae_CT aec_191 := ae_con_ok ae_rok_ok ae_fok_ok (fuel := 100000) (cts := [aec_190]) (mcs := []) (cus := []) (sps := []) (by decide +kernel) (ae_ctc aet_190 (fun _ q => absurd q List.not_mem_nil)) (fun _ q => absurd q List.not_mem_nil)
/-! LastLayer.placeAt: 56 steps -/
def aec_192 : ae_Ct := (176, [(2, 1, 0, 0), (0, 0, (-2147483648), 2147483647)], some (0, (-2147483648), 2147483647), [(1, 12, 12)], [], [[]], false, 1)
theorem aet_192 : ae_CT aec_192 := ae_con_ok ae_rok_ok ae_fok_ok (fuel := 100000) (cts := []) (mcs := []) (cus := []) (sps := []) (by decide +kernel) (fun _ q => absurd q List.not_mem_nil) (fun _ q => absurd q List.not_mem_nil)
/-! Trial.ricksLeft: 445 steps -/
def aec_193 : ae_Ct := (78, [(2, 75, 0, 0), (2, 8, 0, 0)], some (0, 0, 4), [], [], [[]], false, 1)
theorem aet_193 : ae_CT aec_193 := ae_con_ok ae_rok_ok ae_fok_ok (fuel := 100000) (cts := []) (mcs := []) (cus := []) (sps := []) (by decide +kernel) (fun _ q => absurd q List.not_mem_nil) (fun _ q => absurd q List.not_mem_nil)
/-! Trial.isOrder: 153 steps -/
def aec_194 : ae_Ct := (79, [(2, 75, 0, 0), (2, 8, 0, 0), (0, 0, 0, 4)], some (0, 0, 1), [], [], [[]], false, 1)
theorem aet_194 : ae_CT aec_194 := ae_con_ok ae_rok_ok ae_fok_ok (fuel := 100000) (cts := []) (mcs := []) (cus := [(79, 5, ([0, 1, 2], [(0, 3, 0, 0, false, (-2147483648), 2147483647, (-2147483648), 2147483647), (0, 4, 0, 0, false, 0, 4, 0, 4)], [], [], 1, true))]) (sps := []) (by decide +kernel) (fun _ q => absurd q List.not_mem_nil) (fun _ q => absurd q List.not_mem_nil)
/-! Trial.findOrder: 97 steps -/
def aec_195 : ae_Ct := (80, [(2, 75, 0, 0), (2, 8, 0, 0), (0, 0, (-2147483648), 2147483647)], some (0, (-1), 2147483647), [(75, 6, 6), (76, 5, 17), (81, 0, 3), (82, 0, 2), (82, 4, 5), (83, 0, 7), (84, 0, 4), (85, 0, 5), (86, 0, 5), (87, 0, 2), (87, 4, 5), (88, 0, 7), (89, 0, 4), (90, 0, 5), (91, 0, 5), (92, 0, 2), (92, 4, 5), (93, 0, 7), (94, 0, 4), (95, 0, 5), (96, 0, 5), (97, 0, 2), (97, 4, 5), (98, 0, 7), (99, 0, 4), (100, 0, 5), (101, 0, 5), (105, 0, 3), (106, 0, 3)], [], [[]], false, 5)
theorem aet_195 : ae_CT aec_195 := ae_con_ok ae_rok_ok ae_fok_ok (fuel := 100000) (cts := [aec_68, aec_119, aec_131, aec_143, aec_148, aec_189, aec_193, aec_194]) (mcs := []) (cus := [(80, 28, ([0, 1, 2, 4], [(0, 3, 0, 0, false, (-1), 2147483647, (-1), 2147483647), (0, 5, 0, 0, false, 0, 2147483647, 0, 2147483647)], [(76, 5, 17), (81, 0, 3), (82, 0, 2), (82, 4, 5), (83, 0, 7), (84, 0, 4), (85, 0, 5), (86, 0, 5), (87, 0, 2), (87, 4, 5), (88, 0, 7), (89, 0, 4), (90, 0, 5), (91, 0, 5), (92, 0, 2), (92, 4, 5), (93, 0, 7), (94, 0, 4), (95, 0, 5), (96, 0, 5), (97, 0, 2), (97, 4, 5), (98, 0, 7), (99, 0, 4), (100, 0, 5), (101, 0, 5), (105, 0, 3), (106, 0, 3)], [], 1, true)), (80, 75, ([0, 1, 2, 3, 4, 5], [(0, 6, 0, 0, false, 0, 4, 0, 4)], [(76, 13, 16), (81, 0, 3), (82, 4, 4), (83, 0, 7), (84, 4, 4), (85, 4, 5), (86, 4, 5), (87, 4, 4), (88, 0, 7), (89, 4, 4), (90, 4, 5), (91, 4, 5), (92, 4, 4), (93, 0, 7), (94, 4, 4), (95, 4, 5), (96, 4, 5), (97, 4, 4), (98, 0, 7), (99, 4, 4), (100, 4, 5), (101, 4, 5)], [], 0, true))]) (sps := []) (by decide +kernel) (ae_ctc aet_68 (ae_ctc aet_119 (ae_ctc aet_131 (ae_ctc aet_143 (ae_ctc aet_148 (ae_ctc aet_189 (ae_ctc aet_193 (ae_ctc aet_194 (fun _ q => absurd q List.not_mem_nil))))))))) (fun _ q => absurd q List.not_mem_nil)
/-! LastLayer.bestOrder: 68 steps -/
def aec_196 : ae_Ct := (177, [(2, 1, 0, 0), (0, 0, (-2147483648), 2147483647)], some (0, (-1), 2147483647), [(1, 12, 12), (75, 6, 6), (76, 5, 17), (81, 0, 3), (82, 0, 2), (82, 4, 5), (83, 0, 7), (84, 0, 4), (85, 0, 5), (86, 0, 5), (87, 0, 2), (87, 4, 5), (88, 0, 7), (89, 0, 4), (90, 0, 5), (91, 0, 5), (92, 0, 2), (92, 4, 5), (93, 0, 7), (94, 0, 4), (95, 0, 5), (96, 0, 5), (97, 0, 2), (97, 4, 5), (98, 0, 7), (99, 0, 4), (100, 0, 5), (101, 0, 5), (105, 0, 3), (106, 0, 3)], [], [[]], false, 6)
theorem aet_196 : ae_CT aec_196 := ae_con_ok ae_rok_ok ae_fok_ok (fuel := 100000) (cts := [aec_193, aec_195]) (mcs := []) (cus := []) (sps := []) (by decide +kernel) (ae_ctc aet_193 (ae_ctc aet_195 (fun _ q => absurd q List.not_mem_nil))) (fun _ q => absurd q List.not_mem_nil)
/-! LastLayer.orderAt: 56 steps -/
def aec_197 : ae_Ct := (178, [(2, 1, 0, 0), (0, 0, (-2147483648), 2147483647)], some (0, (-2147483648), 2147483647), [(1, 12, 12)], [], [[]], false, 1)
theorem aet_197 : ae_CT aec_197 := ae_con_ok ae_rok_ok ae_fok_ok (fuel := 100000) (cts := []) (mcs := []) (cus := []) (sps := []) (by decide +kernel) (fun _ q => absurd q List.not_mem_nil) (fun _ q => absurd q List.not_mem_nil)
/-! Trial.findParts: 49 steps -/
def aec_198 : ae_Ct := (81, [(2, 75, 0, 0), (2, 8, 0, 0), (0, 0, (-2147483648), 2147483647)], some (0, 1, 20), [(76, 5, 17), (81, 0, 3), (82, 0, 2), (82, 4, 5), (83, 0, 7), (84, 0, 4), (85, 0, 5), (86, 0, 5), (87, 0, 2), (87, 4, 5), (88, 0, 7), (89, 0, 4), (90, 0, 5), (91, 0, 5), (92, 0, 2), (92, 4, 5), (93, 0, 7), (94, 0, 4), (95, 0, 5), (96, 0, 5), (97, 0, 2), (97, 4, 5), (98, 0, 7), (99, 0, 4), (100, 0, 5), (101, 0, 5)], [], [[]], false, 5)
theorem aet_198 : ae_CT aec_198 := ae_con_ok ae_rok_ok ae_fok_ok (fuel := 100000) (cts := [aec_119, aec_143]) (mcs := []) (cus := [(81, 8, ([0, 1, 2], [(0, 3, 0, 0, false, (-2147483648), 2147483647, (-2147483648), 2147483647), (0, 4, 0, 0, false, 1, 20, 1, 20), (0, 5, 0, 0, false, 1, 28, 1, 28)], [(76, 5, 17), (81, 0, 3), (82, 0, 2), (82, 4, 5), (83, 0, 7), (84, 0, 4), (85, 0, 5), (86, 0, 5), (87, 0, 2), (87, 4, 5), (88, 0, 7), (89, 0, 4), (90, 0, 5), (91, 0, 5), (92, 0, 2), (92, 4, 5), (93, 0, 7), (94, 0, 4), (95, 0, 5), (96, 0, 5), (97, 0, 2), (97, 4, 5), (98, 0, 7), (99, 0, 4), (100, 0, 5), (101, 0, 5)], [], 2, true))]) (sps := []) (by decide +kernel) (ae_ctc aet_119 (ae_ctc aet_143 (fun _ q => absurd q List.not_mem_nil))) (fun _ q => absurd q List.not_mem_nil)
/-! LastLayer.slowly: 291 steps -/
def aec_199 : ae_Ct := (179, [(2, 1, 0, 0), (0, 0, (-2147483648), 2147483647)], some (0, (-1), 20), [(1, 12, 12), (76, 5, 17), (81, 0, 3), (82, 0, 2), (82, 4, 5), (83, 0, 7), (84, 0, 4), (85, 0, 5), (86, 0, 5), (87, 0, 2), (87, 4, 5), (88, 0, 7), (89, 0, 4), (90, 0, 5), (91, 0, 5), (92, 0, 2), (92, 4, 5), (93, 0, 7), (94, 0, 4), (95, 0, 5), (96, 0, 5), (97, 0, 2), (97, 4, 5), (98, 0, 7), (99, 0, 4), (100, 0, 5), (101, 0, 5)], [], [[]], false, 6)
theorem aet_199 : ae_CT aec_199 := ae_con_ok ae_rok_ok ae_fok_ok (fuel := 100000) (cts := [aec_198]) (mcs := []) (cus := []) (sps := []) (by decide +kernel) (ae_ctc aet_198 (fun _ q => absurd q List.not_mem_nil)) (fun _ q => absurd q List.not_mem_nil)
/-! Trial.findDearest: 129 steps -/
def aec_200 : ae_Ct := (82, [(2, 75, 0, 0), (2, 8, 0, 0), (0, 0, (-2147483648), 2147483647), (0, 0, (-2147483648), 2147483647)], some (0, 0, 3), [(76, 5, 17), (81, 0, 3), (82, 0, 2), (82, 4, 5), (83, 0, 7), (84, 0, 4), (85, 0, 5), (86, 0, 5), (87, 0, 2), (87, 4, 5), (88, 0, 7), (89, 0, 4), (90, 0, 5), (91, 0, 5), (92, 0, 2), (92, 4, 5), (93, 0, 7), (94, 0, 4), (95, 0, 5), (96, 0, 5), (97, 0, 2), (97, 4, 5), (98, 0, 7), (99, 0, 4), (100, 0, 5), (101, 0, 5)], [], [[]], false, 5)
theorem aet_200 : ae_CT aec_200 := ae_con_ok ae_rok_ok ae_fok_ok (fuel := 100000) (cts := [aec_119, aec_143]) (mcs := []) (cus := [(82, 9, ([0, 1, 2, 3], [(0, 4, 0, 0, false, (-1), 2147483647, (-1), 2147483647), (0, 5, 0, 0, false, 0, 3, 0, 3), (0, 6, 0, 0, false, 0, 4, 0, 4)], [(76, 5, 17), (81, 0, 3), (82, 0, 2), (82, 4, 5), (83, 0, 7), (84, 0, 4), (85, 0, 5), (86, 0, 5), (87, 0, 2), (87, 4, 5), (88, 0, 7), (89, 0, 4), (90, 0, 5), (91, 0, 5), (92, 0, 2), (92, 4, 5), (93, 0, 7), (94, 0, 4), (95, 0, 5), (96, 0, 5), (97, 0, 2), (97, 4, 5), (98, 0, 7), (99, 0, 4), (100, 0, 5), (101, 0, 5)], [], 2, true))]) (sps := []) (by decide +kernel) (ae_ctc aet_119 (ae_ctc aet_143 (fun _ q => absurd q List.not_mem_nil))) (fun _ q => absurd q List.not_mem_nil)
/-! LastLayer.dearest: 481 steps -/
def aec_201 : ae_Ct := (180, [(2, 1, 0, 0), (0, 0, (-2147483648), 2147483647), (0, 0, (-2147483648), 2147483647)], some (0, (-1), 3), [(1, 12, 12), (76, 5, 17), (81, 0, 3), (82, 0, 2), (82, 4, 5), (83, 0, 7), (84, 0, 4), (85, 0, 5), (86, 0, 5), (87, 0, 2), (87, 4, 5), (88, 0, 7), (89, 0, 4), (90, 0, 5), (91, 0, 5), (92, 0, 2), (92, 4, 5), (93, 0, 7), (94, 0, 4), (95, 0, 5), (96, 0, 5), (97, 0, 2), (97, 4, 5), (98, 0, 7), (99, 0, 4), (100, 0, 5), (101, 0, 5)], [], [[]], false, 6)
theorem aet_201 : ae_CT aec_201 := ae_con_ok ae_rok_ok ae_fok_ok (fuel := 100000) (cts := [aec_200]) (mcs := []) (cus := []) (sps := []) (by decide +kernel) (ae_ctc aet_200 (fun _ q => absurd q List.not_mem_nil)) (fun _ q => absurd q List.not_mem_nil)
/-! LastLayer.proudest: 159 steps -/
def aec_202 : ae_Ct := (181, [(2, 1, 0, 0)], some (0, (-1), 3), [(1, 12, 12)], [], [[]], false, 1)
theorem aet_202 : ae_CT aec_202 := ae_con_ok ae_rok_ok ae_fok_ok (fuel := 100000) (cts := []) (mcs := []) (cus := [(181, 21, ([0], [(0, 1, 0, 0, false, 0, 3, 0, 3), (0, 2, 0, 0, false, 1, 4, 1, 4)], [], [], 1, true))]) (sps := []) (by decide +kernel) (fun _ q => absurd q List.not_mem_nil) (fun _ q => absurd q List.not_mem_nil)
/-! LastLayer.tired: 11 steps -/
def aec_203 : ae_Ct := (182, [(2, 1, 0, 0)], some (0, (-2147483648), 2147483647), [(1, 12, 12)], [], [[]], false, 2)
theorem aet_203 : ae_CT aec_203 := ae_con_ok ae_rok_ok ae_fok_ok (fuel := 100000) (cts := [aec_108]) (mcs := []) (cus := []) (sps := []) (by decide +kernel) (ae_ctc aet_108 (fun _ q => absurd q List.not_mem_nil)) (fun _ q => absurd q List.not_mem_nil)
/-! LastLayer.rickStatus: 52 steps -/
def aec_204 : ae_Ct := (183, [(2, 1, 0, 0), (0, 0, (-2147483648), 2147483647), (0, 0, (-2147483648), 2147483647), (0, 0, (-2147483648), 2147483647)], some (0, 0, 5), [], [], [[]], false, 1)
theorem aet_204 : ae_CT aec_204 := ae_con_ok ae_rok_ok ae_fok_ok (fuel := 100000) (cts := []) (mcs := []) (cus := []) (sps := []) (by decide +kernel) (fun _ q => absurd q List.not_mem_nil) (fun _ q => absurd q List.not_mem_nil)
/-! Rick.ratsInAll: 21 steps -/
def aec_205 : ae_Ct := (36, [(2, 102, 0, 0)], some (0, (-2147483648), 2147483647), [], [], [[]], false, 0)
theorem aet_205 : ae_CT aec_205 := ae_con_ok ae_rok_ok ae_fok_ok (fuel := 100000) (cts := []) (mcs := []) (cus := [(36, 7, ([0], [(0, 1, 0, 0, false, (-2147483648), 2147483647, (-2147483648), 2147483647), (0, 2, 0, 0, false, 0, 8, 0, 8)], [], [], 1, true))]) (sps := []) (by decide +kernel) (fun _ q => absurd q List.not_mem_nil) (fun _ q => absurd q List.not_mem_nil)
/-! Rick.grow: 44 steps -/
def aec_206 : ae_Ct := (41, [(2, 102, 0, 0), (0, 0, (-2147483648), 2147483647)], some (0, (-2147483648), 2147483647), [(103, 0, 7)], [], [[]], false, 1)
theorem aet_206 : ae_CT aec_206 := ae_con_ok ae_rok_ok ae_fok_ok (fuel := 100000) (cts := []) (mcs := []) (cus := [(41, 7, ([0, 1], [(0, 2, 0, 0, false, (-2147483648), 2147483647, (-2147483648), 2147483647), (0, 3, 0, 0, false, 0, 8, 0, 8)], [(103, 0, 7)], [], 1, true))]) (sps := []) (by decide +kernel) (fun _ q => absurd q List.not_mem_nil) (fun _ q => absurd q List.not_mem_nil)

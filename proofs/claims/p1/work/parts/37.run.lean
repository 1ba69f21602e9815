set_option maxRecDepth 1000000 in
theorem rm_t1187_0_0 : rm_chk 6 20000 1187 [(0, 4294967295), (0, 4294967295), (0, 2147483647), (0, 2147483647), (0, 4294967295), (0, 4294967295)] rm_lv0 rm_h0 = true := by decide +kernel
set_option maxRecDepth 1000000 in
theorem rm_t1187_0_1 : rm_chk 6 20000 1187 [(0, 4294967295), (0, 4294967295), (2147483648, 2147483648), (0, 2147483647), (0, 4294967295), (0, 4294967295)] rm_lv0 rm_h0 = true := by decide +kernel
set_option maxRecDepth 1000000 in
theorem rm_t1187_0_2 : rm_chk 6 20000 1187 [(0, 4294967295), (0, 4294967295), (2147483649, 4294967295), (0, 2147483647), (0, 4294967295), (0, 4294967295)] rm_lv0 rm_h0 = true := by decide +kernel
set_option maxRecDepth 1000000 in
theorem rm_t1187_1_0 : rm_chk 6 20000 1187 [(0, 4294967295), (0, 4294967295), (0, 2147483647), (2147483648, 2147483648), (0, 4294967295), (0, 4294967295)] rm_lv0 rm_h0 = true := by decide +kernel
set_option maxRecDepth 1000000 in
theorem rm_t1187_1_1 : rm_chk 6 20000 1187 [(0, 4294967295), (0, 4294967295), (2147483648, 2147483648), (2147483648, 2147483648), (0, 4294967295), (0, 4294967295)] rm_lv0 rm_h0 = true := by decide +kernel
set_option maxRecDepth 1000000 in
theorem rm_t1187_1_2 : rm_chk 6 20000 1187 [(0, 4294967295), (0, 4294967295), (2147483649, 4294967295), (2147483648, 2147483648), (0, 4294967295), (0, 4294967295)] rm_lv0 rm_h0 = true := by decide +kernel
set_option maxRecDepth 1000000 in
theorem rm_t1187_2_0 : rm_chk 6 20000 1187 [(0, 4294967295), (0, 4294967295), (0, 2147483647), (2147483649, 2147483649), (0, 4294967295), (0, 4294967295)] rm_lv0 rm_h0 = true := by decide +kernel
set_option maxRecDepth 1000000 in
theorem rm_t1187_2_1 : rm_chk 6 20000 1187 [(0, 4294967295), (0, 4294967295), (2147483648, 2147483648), (2147483649, 2147483649), (0, 4294967295), (0, 4294967295)] rm_lv0 rm_h0 = true := by decide +kernel
set_option maxRecDepth 1000000 in
theorem rm_t1187_2_2 : rm_chk 6 20000 1187 [(0, 4294967295), (0, 4294967295), (2147483649, 4294967295), (2147483649, 2147483649), (0, 4294967295), (0, 4294967295)] rm_lv0 rm_h0 = true := by decide +kernel
set_option maxRecDepth 1000000 in
theorem rm_t1187_3_0 : rm_chk 6 20000 1187 [(0, 4294967295), (0, 4294967295), (0, 2147483647), (2147483650, 2147483650), (0, 4294967295), (0, 4294967295)] rm_lv0 rm_h0 = true := by decide +kernel
set_option maxRecDepth 1000000 in
theorem rm_t1187_3_1 : rm_chk 6 20000 1187 [(0, 4294967295), (0, 4294967295), (2147483648, 2147483648), (2147483650, 2147483650), (0, 4294967295), (0, 4294967295)] rm_lv0 rm_h0 = true := by decide +kernel
set_option maxRecDepth 1000000 in
theorem rm_t1187_3_2 : rm_chk 6 20000 1187 [(0, 4294967295), (0, 4294967295), (2147483649, 4294967295), (2147483650, 2147483650), (0, 4294967295), (0, 4294967295)] rm_lv0 rm_h0 = true := by decide +kernel
set_option maxRecDepth 1000000 in
theorem rm_t1187_4_0 : rm_chk 6 20000 1187 [(0, 4294967295), (0, 4294967295), (0, 2147483647), (2147483651, 4294967295), (0, 4294967295), (0, 4294967295)] rm_lv0 rm_h0 = true := by decide +kernel
set_option maxRecDepth 1000000 in
theorem rm_t1187_4_1 : rm_chk 6 20000 1187 [(0, 4294967295), (0, 4294967295), (2147483648, 2147483648), (2147483651, 4294967295), (0, 4294967295), (0, 4294967295)] rm_lv0 rm_h0 = true := by decide +kernel
set_option maxRecDepth 1000000 in
theorem rm_t1187_4_2 : rm_chk 6 20000 1187 [(0, 4294967295), (0, 4294967295), (2147483649, 4294967295), (2147483651, 4294967295), (0, 4294967295), (0, 4294967295)] rm_lv0 rm_h0 = true := by decide +kernel

set_option maxRecDepth 1000000 in
theorem rm_L0 : rm_chk 0 5000 0 rm_full [(0, (5, 0, 0))] [] = true := by decide +kernel
set_option maxRecDepth 1000000 in
theorem rm_L1 : rm_chk 1 5000 0 rm_full [(0, (5, 0, 0))] [] = true := by decide +kernel
set_option maxRecDepth 1000000 in
theorem rm_L2 : rm_chk 2 5000 0 rm_full [(0, (5, 0, 0))] [] = true := by decide +kernel
set_option maxRecDepth 1000000 in
theorem rm_L3 : rm_chk 3 5000 0 rm_full [(0, (5, 0, 0))] [] = true := by decide +kernel
set_option maxRecDepth 1000000 in
theorem rm_L4 : rm_chk 4 5000 0 rm_full [(0, (5, 0, 0))] [] = true := by decide +kernel
set_option maxRecDepth 1000000 in
theorem rm_L5 : rm_chk 5 5000 0 rm_full [(0, (5, 0, 0))] [] = true := by decide +kernel

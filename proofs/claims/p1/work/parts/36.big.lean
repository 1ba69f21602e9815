set_option maxRecDepth 1000000 in
theorem rm_t309 : rm_chk 6 20000 309 rm_full rm_lv0 rm_h0 = true := by decide +kernel
set_option maxRecDepth 1000000 in
theorem rm_t522 : rm_chk 6 20000 522 rm_full rm_lv0 rm_h0 = true := by decide +kernel
set_option maxRecDepth 1000000 in
theorem rm_t585 : rm_chk 6 20000 585 rm_full rm_lv0 rm_h0 = true := by decide +kernel
set_option maxRecDepth 1000000 in
theorem rm_t1797 : rm_chk 6 20000 1797 rm_full rm_lv0 rm_h0 = true := by decide +kernel

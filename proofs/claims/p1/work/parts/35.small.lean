set_option maxRecDepth 1000000 in
theorem rm_t268 : rm_chk 6 20000 268 rm_full rm_lv0 rm_h0 = true := by decide +kernel
set_option maxRecDepth 1000000 in
theorem rm_t281 : rm_chk 6 20000 281 rm_full rm_lv0 rm_h0 = true := by decide +kernel
set_option maxRecDepth 1000000 in
theorem rm_t295 : rm_chk 6 20000 295 rm_full rm_lv0 rm_h0 = true := by decide +kernel
set_option maxRecDepth 1000000 in
theorem rm_t352 : rm_chk 6 20000 352 rm_full rm_lv0 rm_h0 = true := by decide +kernel
set_option maxRecDepth 1000000 in
theorem rm_t425 : rm_chk 6 20000 425 rm_full rm_lv0 rm_h0 = true := by decide +kernel
set_option maxRecDepth 1000000 in
theorem rm_t459 : rm_chk 6 20000 459 rm_full rm_lv0 rm_h0 = true := by decide +kernel
set_option maxRecDepth 1000000 in
theorem rm_t608 : rm_chk 6 20000 608 rm_full rm_lv0 rm_h0 = true := by decide +kernel
set_option maxRecDepth 1000000 in
theorem rm_t631 : rm_chk 6 20000 631 rm_full rm_lv0 rm_h0 = true := by decide +kernel
set_option maxRecDepth 1000000 in
theorem rm_t654 : rm_chk 6 20000 654 rm_full rm_lv0 rm_h0 = true := by decide +kernel
set_option maxRecDepth 1000000 in
theorem rm_t677 : rm_chk 6 20000 677 rm_full rm_lv0 rm_h0 = true := by decide +kernel
set_option maxRecDepth 1000000 in
theorem rm_t710 : rm_chk 6 20000 710 rm_full rm_lv0 rm_h0 = true := by decide +kernel
set_option maxRecDepth 1000000 in
theorem rm_t743 : rm_chk 6 20000 743 rm_full rm_lv0 rm_h0 = true := by decide +kernel
set_option maxRecDepth 1000000 in
theorem rm_t776 : rm_chk 6 20000 776 rm_full rm_lv0 rm_h0 = true := by decide +kernel
set_option maxRecDepth 1000000 in
theorem rm_t809 : rm_chk 6 20000 809 rm_full rm_lv0 rm_h0 = true := by decide +kernel
set_option maxRecDepth 1000000 in
theorem rm_t842 : rm_chk 6 20000 842 rm_full rm_lv0 rm_h0 = true := by decide +kernel
set_option maxRecDepth 1000000 in
theorem rm_t855 : rm_chk 6 20000 855 rm_full rm_lv0 rm_h0 = true := by decide +kernel
set_option maxRecDepth 1000000 in
theorem rm_t868 : rm_chk 6 20000 868 rm_full rm_lv0 rm_h0 = true := by decide +kernel
set_option maxRecDepth 1000000 in
theorem rm_t881 : rm_chk 6 20000 881 rm_full rm_lv0 rm_h0 = true := by decide +kernel
set_option maxRecDepth 1000000 in
theorem rm_t914 : rm_chk 6 20000 914 rm_full rm_lv0 rm_h0 = true := by decide +kernel
set_option maxRecDepth 1000000 in
theorem rm_t937 : rm_chk 6 20000 937 rm_full rm_lv0 rm_h0 = true := by decide +kernel
set_option maxRecDepth 1000000 in
theorem rm_t950 : rm_chk 6 20000 950 rm_full rm_lv0 rm_h0 = true := by decide +kernel
set_option maxRecDepth 1000000 in
theorem rm_t973 : rm_chk 6 20000 973 rm_full rm_lv0 rm_h0 = true := by decide +kernel
set_option maxRecDepth 1000000 in
theorem rm_t996 : rm_chk 6 20000 996 rm_full rm_lv0 rm_h0 = true := by decide +kernel
set_option maxRecDepth 1000000 in
theorem rm_t1019 : rm_chk 6 20000 1019 rm_full rm_lv0 rm_h0 = true := by decide +kernel
set_option maxRecDepth 1000000 in
theorem rm_t1052 : rm_chk 6 20000 1052 rm_full rm_lv0 rm_h0 = true := by decide +kernel
set_option maxRecDepth 1000000 in
theorem rm_t1085 : rm_chk 6 20000 1085 rm_full rm_lv0 rm_h0 = true := by decide +kernel
set_option maxRecDepth 1000000 in
theorem rm_t1118 : rm_chk 6 20000 1118 rm_full rm_lv0 rm_h0 = true := by decide +kernel
set_option maxRecDepth 1000000 in
theorem rm_t1131 : rm_chk 6 20000 1131 rm_full rm_lv0 rm_h0 = true := by decide +kernel
set_option maxRecDepth 1000000 in
theorem rm_t1154 : rm_chk 6 20000 1154 rm_full rm_lv0 rm_h0 = true := by decide +kernel
set_option maxRecDepth 1000000 in
theorem rm_t1246 : rm_chk 6 20000 1246 rm_full rm_lv0 rm_h0 = true := by decide +kernel
set_option maxRecDepth 1000000 in
theorem rm_t1289 : rm_chk 6 20000 1289 rm_full rm_lv0 rm_h0 = true := by decide +kernel
set_option maxRecDepth 1000000 in
theorem rm_t1322 : rm_chk 6 20000 1322 rm_full rm_lv0 rm_h0 = true := by decide +kernel
set_option maxRecDepth 1000000 in
theorem rm_t1335 : rm_chk 6 20000 1335 rm_full rm_lv0 rm_h0 = true := by decide +kernel
set_option maxRecDepth 1000000 in
theorem rm_t1368 : rm_chk 6 20000 1368 rm_full rm_lv0 rm_h0 = true := by decide +kernel
set_option maxRecDepth 1000000 in
theorem rm_t1391 : rm_chk 6 20000 1391 rm_full rm_lv0 rm_h0 = true := by decide +kernel
set_option maxRecDepth 1000000 in
theorem rm_t1414 : rm_chk 6 20000 1414 rm_full rm_lv0 rm_h0 = true := by decide +kernel
set_option maxRecDepth 1000000 in
theorem rm_t1437 : rm_chk 6 20000 1437 rm_full rm_lv0 rm_h0 = true := by decide +kernel
set_option maxRecDepth 1000000 in
theorem rm_t1460 : rm_chk 6 20000 1460 rm_full rm_lv0 rm_h0 = true := by decide +kernel
set_option maxRecDepth 1000000 in
theorem rm_t1493 : rm_chk 6 20000 1493 rm_full rm_lv0 rm_h0 = true := by decide +kernel
set_option maxRecDepth 1000000 in
theorem rm_t1506 : rm_chk 6 20000 1506 rm_full rm_lv0 rm_h0 = true := by decide +kernel
set_option maxRecDepth 1000000 in
theorem rm_t1519 : rm_chk 6 20000 1519 rm_full rm_lv0 rm_h0 = true := by decide +kernel
set_option maxRecDepth 1000000 in
theorem rm_t1552 : rm_chk 6 20000 1552 rm_full rm_lv0 rm_h0 = true := by decide +kernel
set_option maxRecDepth 1000000 in
theorem rm_t1585 : rm_chk 6 20000 1585 rm_full rm_lv0 rm_h0 = true := by decide +kernel
set_option maxRecDepth 1000000 in
theorem rm_t1619 : rm_chk 6 20000 1619 rm_full rm_lv0 rm_h0 = true := by decide +kernel
set_option maxRecDepth 1000000 in
theorem rm_t1642 : rm_chk 6 20000 1642 rm_full rm_lv0 rm_h0 = true := by decide +kernel
set_option maxRecDepth 1000000 in
theorem rm_t1665 : rm_chk 6 20000 1665 rm_full rm_lv0 rm_h0 = true := by decide +kernel
set_option maxRecDepth 1000000 in
theorem rm_t1718 : rm_chk 6 20000 1718 rm_full rm_lv0 rm_h0 = true := by decide +kernel
set_option maxRecDepth 1000000 in
theorem rm_t1741 : rm_chk 6 20000 1741 rm_full rm_lv0 rm_h0 = true := by decide +kernel
set_option maxRecDepth 1000000 in
theorem rm_t1764 : rm_chk 6 20000 1764 rm_full rm_lv0 rm_h0 = true := by decide +kernel
set_option maxRecDepth 1000000 in
theorem rm_t1810 : rm_chk 6 20000 1810 rm_full rm_lv0 rm_h0 = true := by decide +kernel
set_option maxRecDepth 1000000 in
theorem rm_t1823 : rm_chk 6 20000 1823 rm_full rm_lv0 rm_h0 = true := by decide +kernel

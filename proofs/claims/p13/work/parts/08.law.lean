set_option maxRecDepth 100000 in
theorem am_DL_ok0 : (List.range 100).all (fun k => am_chk 354 (0 + k)) = true := az_al1 (by decide +kernel)
set_option maxRecDepth 100000 in
theorem am_DL_ok100 : (List.range 100).all (fun k => am_chk 354 (100 + k)) = true := az_al1 (by decide +kernel)
set_option maxRecDepth 100000 in
theorem am_DL_ok200 : (List.range 100).all (fun k => am_chk 354 (200 + k)) = true := az_al1 (by decide +kernel)
set_option maxRecDepth 100000 in
theorem am_DL_ok300 : (List.range 100).all (fun k => am_chk 354 (300 + k)) = true := az_al1 (by decide +kernel)
set_option maxRecDepth 100000 in
theorem am_DL_ok400 : (List.range 100).all (fun k => am_chk 354 (400 + k)) = true := az_al1 (by decide +kernel)
set_option maxRecDepth 100000 in
theorem am_DL_ok500 : (List.range 100).all (fun k => am_chk 354 (500 + k)) = true := az_al1 (by decide +kernel)
set_option maxRecDepth 100000 in
theorem am_DL_ok600 : (List.range 100).all (fun k => am_chk 354 (600 + k)) = true := az_al1 (by decide +kernel)
set_option maxRecDepth 100000 in
theorem am_DL_ok700 : (List.range 100).all (fun k => am_chk 354 (700 + k)) = true := az_al1 (by decide +kernel)
set_option maxRecDepth 100000 in
theorem am_DL_ok800 : (List.range 100).all (fun k => am_chk 354 (800 + k)) = true := az_al1 (by decide +kernel)
set_option maxRecDepth 100000 in
theorem am_DL_ok900 : (List.range 100).all (fun k => am_chk 354 (900 + k)) = true := az_al1 (by decide +kernel)
set_option maxRecDepth 100000 in
theorem am_DL_ok1000 : (List.range 100).all (fun k => am_chk 354 (1000 + k)) = true := az_al1 (by decide +kernel)
set_option maxRecDepth 100000 in
theorem am_DL_ok1100 : (List.range 100).all (fun k => am_chk 354 (1100 + k)) = true := az_al1 (by decide +kernel)
set_option maxRecDepth 100000 in
theorem am_DL_ok1200 : (List.range 100).all (fun k => am_chk 354 (1200 + k)) = true := az_al1 (by decide +kernel)
set_option maxRecDepth 100000 in
theorem am_DL_ok1300 : (List.range 100).all (fun k => am_chk 354 (1300 + k)) = true := az_al1 (by decide +kernel)
set_option maxRecDepth 100000 in
theorem am_DL_ok1400 : (List.range 100).all (fun k => am_chk 354 (1400 + k)) = true := az_al1 (by decide +kernel)
set_option maxRecDepth 100000 in
theorem am_DL_ok1500 : (List.range 100).all (fun k => am_chk 354 (1500 + k)) = true := az_al1 (by decide +kernel)
set_option maxRecDepth 100000 in
theorem am_DL_ok1600 : (List.range 100).all (fun k => am_chk 354 (1600 + k)) = true := az_al1 (by decide +kernel)
set_option maxRecDepth 100000 in
theorem am_DL_ok1700 : (List.range 100).all (fun k => am_chk 354 (1700 + k)) = true := az_al1 (by decide +kernel)
set_option maxRecDepth 100000 in
theorem am_DL_ok1800 : (List.range 27).all (fun k => am_chk 354 (1800 + k)) = true := az_al1 (by decide +kernel)

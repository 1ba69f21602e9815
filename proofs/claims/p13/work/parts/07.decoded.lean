set_option maxRecDepth 100000 in
theorem am_D_ok0 : (List.range 19).all (fun k => (List.range (am_mx (0 + k))).all (am_chk (0 + k))) = true := az_all (by decide +kernel)
set_option maxRecDepth 100000 in
theorem am_D_ok19 : (List.range 22).all (fun k => (List.range (am_mx (19 + k))).all (am_chk (19 + k))) = true := az_all (by decide +kernel)
set_option maxRecDepth 100000 in
theorem am_D_ok41 : (List.range 22).all (fun k => (List.range (am_mx (41 + k))).all (am_chk (41 + k))) = true := az_all (by decide +kernel)
set_option maxRecDepth 100000 in
theorem am_D_ok63 : (List.range 22).all (fun k => (List.range (am_mx (63 + k))).all (am_chk (63 + k))) = true := az_all (by decide +kernel)
set_option maxRecDepth 100000 in
theorem am_D_ok85 : (List.range 22).all (fun k => (List.range (am_mx (85 + k))).all (am_chk (85 + k))) = true := az_all (by decide +kernel)
set_option maxRecDepth 100000 in
theorem am_D_ok107 : (List.range 16).all (fun k => (List.range (am_mx (107 + k))).all (am_chk (107 + k))) = true := az_all (by decide +kernel)
set_option maxRecDepth 100000 in
theorem am_D_ok123 : (List.range 22).all (fun k => (List.range (am_mx (123 + k))).all (am_chk (123 + k))) = true := az_all (by decide +kernel)
set_option maxRecDepth 100000 in
theorem am_D_ok145 : (List.range 20).all (fun k => (List.range (am_mx (145 + k))).all (am_chk (145 + k))) = true := az_all (by decide +kernel)
set_option maxRecDepth 100000 in
theorem am_D_ok165 : (List.range 24).all (fun k => (List.range (am_mx (165 + k))).all (am_chk (165 + k))) = true := az_all (by decide +kernel)
set_option maxRecDepth 100000 in
theorem am_D_ok189 : (List.range 20).all (fun k => (List.range (am_mx (189 + k))).all (am_chk (189 + k))) = true := az_all (by decide +kernel)
set_option maxRecDepth 100000 in
theorem am_D_ok209 : (List.range 28).all (fun k => (List.range (am_mx (209 + k))).all (am_chk (209 + k))) = true := az_all (by decide +kernel)
set_option maxRecDepth 100000 in
theorem am_D_ok237 : (List.range 19).all (fun k => (List.range (am_mx (237 + k))).all (am_chk (237 + k))) = true := az_all (by decide +kernel)
set_option maxRecDepth 100000 in
theorem am_D_ok256 : (List.range 8).all (fun k => (List.range (am_mx (256 + k))).all (am_chk (256 + k))) = true := az_all (by decide +kernel)
set_option maxRecDepth 100000 in
theorem am_D_ok264 : (List.range 19).all (fun k => (List.range (am_mx (264 + k))).all (am_chk (264 + k))) = true := az_all (by decide +kernel)
set_option maxRecDepth 100000 in
theorem am_D_ok283 : (List.range 10).all (fun k => (List.range (am_mx (283 + k))).all (am_chk (283 + k))) = true := az_all (by decide +kernel)
set_option maxRecDepth 100000 in
theorem am_D_ok293 : (List.range 20).all (fun k => (List.range (am_mx (293 + k))).all (am_chk (293 + k))) = true := az_all (by decide +kernel)
set_option maxRecDepth 100000 in
theorem am_D_ok313 : (List.range 13).all (fun k => (List.range (am_mx (313 + k))).all (am_chk (313 + k))) = true := az_all (by decide +kernel)
set_option maxRecDepth 100000 in
theorem am_D_ok326 : (List.range 15).all (fun k => (List.range (am_mx (326 + k))).all (am_chk (326 + k))) = true := az_all (by decide +kernel)
set_option maxRecDepth 100000 in
theorem am_D_ok341 : (List.range 12).all (fun k => (List.range (am_mx (341 + k))).all (am_chk (341 + k))) = true := az_all (by decide +kernel)
set_option maxRecDepth 100000 in
theorem am_D_ok353 : (List.range 1).all (fun k => (List.range (am_mx (353 + k))).all (am_chk (353 + k))) = true := az_all (by decide +kernel)

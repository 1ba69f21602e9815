/-! Contracts 266 to 315 -/
/-! LastLayerModel.status: 6 steps -/
noncomputable def aec_266 : ae_Ct := (197, [(2, 219, 0, 0)], some (0, (-2147483648), 2147483647), [(219, 1, 1)], [], [[]], false, 0)
theorem aet_266 : ae_CT aec_266 := ae_con_ok ae_rok_ok ae_fok_ok (fuel := 100000) (cts := []) (mcs := []) (cus := []) (sps := []) (af_kc (by decide +kernel)) (fun _ q => absurd q List.not_mem_nil) (fun _ q => absurd q List.not_mem_nil)
/-! LastLayerModel.top: 6 steps -/
noncomputable def aec_267 : ae_Ct := (198, [(2, 219, 0, 0)], some (1, (-9223372036854775808), 9223372036854775807), [(219, 1, 1)], [], [[]], false, 0)
theorem aet_267 : ae_CT aec_267 := ae_con_ok ae_rok_ok ae_fok_ok (fuel := 100000) (cts := []) (mcs := []) (cus := []) (sps := []) (af_kc (by decide +kernel)) (fun _ q => absurd q List.not_mem_nil) (fun _ q => absurd q List.not_mem_nil)
/-! LastLayerModel.bottom: 6 steps -/
noncomputable def aec_268 : ae_Ct := (199, [(2, 219, 0, 0)], some (1, (-9223372036854775808), 9223372036854775807), [(219, 1, 1)], [], [[]], false, 0)
theorem aet_268 : ae_CT aec_268 := ae_con_ok ae_rok_ok ae_fok_ok (fuel := 100000) (cts := []) (mcs := []) (cus := []) (sps := []) (af_kc (by decide +kernel)) (fun _ q => absurd q List.not_mem_nil) (fun _ q => absurd q List.not_mem_nil)
/-! LastLayerModel.tray: 104 steps -/
noncomputable def aec_269 : ae_Ct := (205, [(2, 219, 0, 0), (0, 0, (-2147483648), 2147483647), (0, 0, (-2147483648), 2147483647), (0, 0, (-2147483648), 2147483647)], some (0, 0, 1), [(219, 0, 1), (220, 0, 3), (221, 0, 3), (222, 0, 239)], [], [[]], false, 1)
theorem aet_269 : ae_CT aec_269 := ae_con_ok ae_rok_ok ae_fok_ok (fuel := 100000) (cts := []) (mcs := []) (cus := [(205, 74, ([0, 1, 2, 3], [(0, 4, 0, 0, false, 0, 60, 0, 60)], [(222, 0, 239)], [], 0, true))]) (sps := []) (af_kc (by decide +kernel)) (fun _ q => absurd q List.not_mem_nil) (fun _ q => absurd q List.not_mem_nil)
/-! LastLayerModel.write: 155 steps -/
noncomputable def aec_270 : ae_Ct := (208, [(2, 219, 0, 0), (0, 0, (-2147483648), 2147483647), (0, 0, (-2147483648), 2147483647), (1, 0, (-9223372036854775808), 9223372036854775807)], some (0, 0, 1), [(219, 0, 1), (222, 0, 239)], [], [[]], false, 2)
theorem aet_270 : ae_CT aec_270 := ae_con_ok ae_rok_ok ae_fok_ok (fuel := 100000) (cts := []) (mcs := []) (cus := []) (sps := []) (af_kc (by decide +kernel)) (fun _ q => absurd q List.not_mem_nil) (fun _ q => absurd q List.not_mem_nil)
/-! LastLayerModel.read: 117 steps -/
noncomputable def aec_271 : ae_Ct := (209, [(2, 219, 0, 0), (0, 0, (-2147483648), 2147483647), (0, 0, (-2147483648), 2147483647)], some (1, (-9223372036854775808), 9223372036854775807), [(219, 0, 1)], [], [[]], false, 2)
theorem aet_271 : ae_CT aec_271 := ae_con_ok ae_rok_ok ae_fok_ok (fuel := 100000) (cts := []) (mcs := []) (cus := []) (sps := []) (af_kc (by decide +kernel)) (fun _ q => absurd q List.not_mem_nil) (fun _ q => absurd q List.not_mem_nil)
/-! LastLayerModel.pour: 263 steps -/
noncomputable def aec_272 : ae_Ct := (210, [(2, 219, 0, 0), (0, 0, (-2147483648), 2147483647), (0, 0, (-2147483648), 2147483647), (0, 0, (-2147483648), 2147483647), (0, 0, (-2147483648), 2147483647), (0, 0, (-2147483648), 2147483647)], some (0, 0, 1), [(219, 0, 1), (222, 0, 239)], [], [[]], false, 1)
theorem aet_272 : ae_CT aec_272 := ae_con_ok ae_rok_ok ae_fok_ok (fuel := 100000) (cts := []) (mcs := []) (cus := [(210, 158, ([0, 1, 2, 3, 4, 5, 6], [(0, 7, 0, 0, false, 0, 60, 0, 60)], [(222, 0, 239)], [], 0, true))]) (sps := []) (af_kc (by decide +kernel)) (fun _ q => absurd q List.not_mem_nil) (fun _ q => absurd q List.not_mem_nil)
/-! LastLayerModel.isTray: 23 steps -/
noncomputable def aec_273 : ae_Ct := (212, [(2, 219, 0, 0), (0, 0, (-2147483648), 2147483647)], some (0, 0, 1), [], [], [[]], false, 1)
theorem aet_273 : ae_CT aec_273 := ae_con_ok ae_rok_ok ae_fok_ok (fuel := 100000) (cts := []) (mcs := []) (cus := []) (sps := []) (af_kc (by decide +kernel)) (fun _ q => absurd q List.not_mem_nil) (fun _ q => absurd q List.not_mem_nil)
/-! LastLayerModel.feed: 474 steps -/
noncomputable def aec_274 : ae_Ct := (248, [(2, 219, 0, 0), (0, 0, (-2147483648), 2147483647), (0, 0, (-2147483648), 2147483647), (0, 0, (-2147483648), 2147483647), (0, 0, (-2147483648), 2147483647), (0, 0, (-2147483648), 2147483647)], some (0, (-1), 900), [(219, 1, 1), (219, 8, 8), (223, 0, 899)], [], [[]], false, 1)
theorem aet_274 : ae_CT aec_274 := ae_con_ok ae_rok_ok ae_fok_ok (fuel := 100000) (cts := []) (mcs := []) (cus := []) (sps := []) (af_kc (by decide +kernel)) (fun _ q => absurd q List.not_mem_nil) (fun _ q => absurd q List.not_mem_nil)
/-! LastLayerModel.fault: 23 steps -/
noncomputable def aec_275 : ae_Ct := (252, [(2, 219, 0, 0), (0, 0, (-2147483648), 2147483647)], some (0, (-2147483648), 2147483647), [(219, 1, 1)], [], [[]], false, 0)
theorem aet_275 : ae_CT aec_275 := ae_con_ok ae_rok_ok ae_fok_ok (fuel := 100000) (cts := []) (mcs := []) (cus := []) (sps := []) (af_kc (by decide +kernel)) (fun _ q => absurd q List.not_mem_nil) (fun _ q => absurd q List.not_mem_nil)
/-! LastLayerModel.next: 1016 steps -/
noncomputable def aec_276 : ae_Ct := (219, [(2, 219, 0, 0)], none, [(219, 14, 19)], [(219, 16), (219, 14)], [[(true, 0, 0, 900), (false, 0, 0, 0)], [(true, 1, 0, 900), (false, 0, 1, 4)]], true, 1)
theorem aet_276 : ae_CT aec_276 := ae_con_ok ae_rok_ok ae_fok_ok (fuel := 100000) (cts := []) (mcs := []) (cus := [(219, 8, ([0], [(1, 219, 15, 0, true, 0, 900, 0, 900)], [(219, 15, 15)], [], 0, true)), (219, 210, ([0, 1], [(1, 219, 16, 0, true, 0, 900, 1, 900)], [(219, 16, 17)], [], 0, true)), (219, 109, ([0, 1], [(1, 219, 16, 0, true, 0, 900, 1, 900)], [(219, 16, 16), (219, 19, 19)], [], 0, true))]) (sps := [(215, 17, 2, 1, 0)]) (af_kc (by decide +kernel)) (fun _ q => absurd q List.not_mem_nil) (fun _ q => absurd q List.not_mem_nil)
/-! LastLayerModel.spelled: 222 steps -/
noncomputable def aec_277 : ae_Ct := (221, [(0, 0, (-2147483648), 2147483647), (0, 0, (-2147483648), 2147483647), (0, 0, (-2147483648), 2147483647), (0, 0, (-2147483648), 2147483647), (0, 0, (-2147483648), 2147483647), (0, 0, (-2147483648), 2147483647)], some (1, (-74309397176715327), 74382029126233983), [], [], [[]], true, 0)
theorem aet_277 : ae_CT aec_277 := ae_con_ok ae_rok_ok ae_fok_ok (fuel := 100000) (cts := []) (mcs := []) (cus := []) (sps := []) (af_kc (by decide +kernel)) (fun _ q => absurd q List.not_mem_nil) (fun _ q => absurd q List.not_mem_nil)
/-! LastLayerModel.isWord: 20 steps -/
noncomputable def aec_278 : ae_Ct := (222, [(2, 219, 0, 0), (1, 0, (-9223372036854775808), 9223372036854775807)], some (0, 0, 1), [], [], [[]], true, 0)
theorem aet_278 : ae_CT aec_278 := ae_con_ok ae_rok_ok ae_fok_ok (fuel := 100000) (cts := []) (mcs := []) (cus := []) (sps := []) (af_kc (by decide +kernel)) (fun _ q => absurd q List.not_mem_nil) (fun _ q => absurd q List.not_mem_nil)
/-! LastLayerModel.isRick: 10 steps -/
noncomputable def aec_279 : ae_Ct := (223, [(2, 219, 0, 0)], some (0, 0, 1), [], [], [[]], true, 1)
theorem aet_279 : ae_CT aec_279 := ae_con_ok ae_rok_ok ae_fok_ok (fuel := 100000) (cts := [aec_277, aec_278]) (mcs := []) (cus := []) (sps := []) (af_kc (by decide +kernel)) (ae_ctc aet_277 (ae_ctc aet_278 (fun _ q => absurd q List.not_mem_nil))) (fun _ q => absurd q List.not_mem_nil)
/-! LastLayerModel.isSide: 10 steps -/
noncomputable def aec_280 : ae_Ct := (227, [(2, 219, 0, 0)], some (0, 0, 1), [], [], [[]], true, 1)
theorem aet_280 : ae_CT aec_280 := ae_con_ok ae_rok_ok ae_fok_ok (fuel := 100000) (cts := [aec_277, aec_278]) (mcs := []) (cus := []) (sps := []) (af_kc (by decide +kernel)) (ae_ctc aet_277 (ae_ctc aet_278 (fun _ q => absurd q List.not_mem_nil))) (fun _ q => absurd q List.not_mem_nil)
/-! LastLayerModel.isDog: 10 steps -/
noncomputable def aec_281 : ae_Ct := (231, [(2, 219, 0, 0)], some (0, 0, 1), [], [], [[]], true, 1)
theorem aet_281 : ae_CT aec_281 := ae_con_ok ae_rok_ok ae_fok_ok (fuel := 100000) (cts := [aec_277, aec_278]) (mcs := []) (cus := []) (sps := []) (af_kc (by decide +kernel)) (ae_ctc aet_277 (ae_ctc aet_278 (fun _ q => absurd q List.not_mem_nil))) (fun _ q => absurd q List.not_mem_nil)
/-! LastLayerModel.isBoy: 10 steps -/
noncomputable def aec_282 : ae_Ct := (235, [(2, 219, 0, 0)], some (0, 0, 1), [], [], [[]], true, 1)
theorem aet_282 : ae_CT aec_282 := ae_con_ok ae_rok_ok ae_fok_ok (fuel := 100000) (cts := [aec_277, aec_278]) (mcs := []) (cus := []) (sps := []) (af_kc (by decide +kernel)) (ae_ctc aet_277 (ae_ctc aet_278 (fun _ q => absurd q List.not_mem_nil))) (fun _ q => absurd q List.not_mem_nil)
/-! LastLayerModel.copy: 28 steps -/
noncomputable def aec_283 : ae_Ct := (350, [(2, 219, 0, 0), (0, 0, 4, 4), (0, 0, 0, 0)], none, [(224, 0, 384), (226, 0, 15)], [], [[]], false, 0)
theorem aet_283 : ae_CT aec_283 := ae_con_ok ae_rok_ok ae_fok_ok (fuel := 100000) (cts := []) (mcs := [aem_13, aem_14, aem_15, aem_16, aem_17, aem_18, aem_19]) (cus := [(350, 41, ([0, 1, 2], [(0, 3, 0, 0, false, 0, 16, 0, 16)], [(226, 0, 15)], [], 0, true))]) (sps := []) (af_kc (by decide +kernel)) (fun _ q => absurd q List.not_mem_nil) (ae_mmc aemt_13 (ae_mmc aemt_14 (ae_mmc aemt_15 (ae_mmc aemt_16 (ae_mmc aemt_17 (ae_mmc aemt_18 (ae_mmc aemt_19 (fun _ q => absurd q List.not_mem_nil))))))))
/-! LastLayerModel.yard from 182: 49 steps -/
noncomputable def aec_284 : ae_Ct := (261, [(2, 219, 0, 0)], some (0, (-1), 4), [(219, 0, 0), (219, 10, 11), (224, 0, 384), (226, 0, 15)], [], [[]], false, 2)
theorem aet_284 : ae_CS 182 [] aec_284 := ae_suf_ok ae_rok_ok ae_fok_ok (fuel := 100000) (cts := [aec_283]) (mcs := [aem_21]) (cus := []) (sps := [(261, 194, 0, 0, 0), (261, 194, 0, 1, 0)]) (sfs := []) (af_kc (by decide +kernel)) (ae_ctc aet_283 (fun _ q => absurd q List.not_mem_nil)) (ae_mmc aemt_21 (fun _ q => absurd q List.not_mem_nil)) (fun _ q => absurd q List.not_mem_nil)
/-! LastLayerModel.isHolds: 10 steps -/
noncomputable def aec_285 : ae_Ct := (224, [(2, 219, 0, 0)], some (0, 0, 1), [], [], [[]], true, 1)
theorem aet_285 : ae_CT aec_285 := ae_con_ok ae_rok_ok ae_fok_ok (fuel := 100000) (cts := [aec_277, aec_278]) (mcs := []) (cus := []) (sps := []) (af_kc (by decide +kernel)) (ae_ctc aet_277 (ae_ctc aet_278 (fun _ q => absurd q List.not_mem_nil))) (fun _ q => absurd q List.not_mem_nil)
/-! LastLayerModel.isLayers: 10 steps -/
noncomputable def aec_286 : ae_Ct := (225, [(2, 219, 0, 0)], some (0, 0, 1), [], [], [[]], true, 1)
theorem aet_286 : ae_CT aec_286 := ae_con_ok ae_rok_ok ae_fok_ok (fuel := 100000) (cts := [aec_277, aec_278]) (mcs := []) (cus := []) (sps := []) (af_kc (by decide +kernel)) (ae_ctc aet_277 (ae_ctc aet_278 (fun _ q => absurd q List.not_mem_nil))) (fun _ q => absurd q List.not_mem_nil)
/-! LastLayerModel.isCaps: 10 steps -/
noncomputable def aec_287 : ae_Ct := (226, [(2, 219, 0, 0)], some (0, 0, 1), [], [], [[]], true, 1)
theorem aet_287 : ae_CT aec_287 := ae_con_ok ae_rok_ok ae_fok_ok (fuel := 100000) (cts := [aec_277, aec_278]) (mcs := []) (cus := []) (sps := []) (af_kc (by decide +kernel)) (ae_ctc aet_277 (ae_ctc aet_278 (fun _ q => absurd q List.not_mem_nil))) (fun _ q => absurd q List.not_mem_nil)
/-! LastLayerModel.isWeight: 10 steps -/
noncomputable def aec_288 : ae_Ct := (228, [(2, 219, 0, 0)], some (0, 0, 1), [], [], [[]], true, 1)
theorem aet_288 : ae_CT aec_288 := ae_con_ok ae_rok_ok ae_fok_ok (fuel := 100000) (cts := [aec_277, aec_278]) (mcs := []) (cus := []) (sps := []) (af_kc (by decide +kernel)) (ae_ctc aet_277 (ae_ctc aet_278 (fun _ q => absurd q List.not_mem_nil))) (fun _ q => absurd q List.not_mem_nil)
/-! LastLayerModel.isTo: 10 steps -/
noncomputable def aec_289 : ae_Ct := (230, [(2, 219, 0, 0)], some (0, 0, 1), [], [], [[]], true, 1)
theorem aet_289 : ae_CT aec_289 := ae_con_ok ae_rok_ok ae_fok_ok (fuel := 100000) (cts := [aec_277, aec_278]) (mcs := []) (cus := []) (sps := []) (af_kc (by decide +kernel)) (ae_ctc aet_277 (ae_ctc aet_278 (fun _ q => absurd q List.not_mem_nil))) (fun _ q => absurd q List.not_mem_nil)
/-! LastLayerModel.isAt: 10 steps -/
noncomputable def aec_290 : ae_Ct := (232, [(2, 219, 0, 0)], some (0, 0, 1), [], [], [[]], true, 1)
theorem aet_290 : ae_CT aec_290 := ae_con_ok ae_rok_ok ae_fok_ok (fuel := 100000) (cts := [aec_277, aec_278]) (mcs := []) (cus := []) (sps := []) (af_kc (by decide +kernel)) (ae_ctc aet_277 (ae_ctc aet_278 (fun _ q => absurd q List.not_mem_nil))) (fun _ q => absurd q List.not_mem_nil)
/-! LastLayerModel.isCatches: 14 steps -/
noncomputable def aec_291 : ae_Ct := (233, [(2, 219, 0, 0)], some (0, 0, 1), [], [], [[]], true, 1)
theorem aet_291 : ae_CT aec_291 := ae_con_ok ae_rok_ok ae_fok_ok (fuel := 100000) (cts := [aec_277, aec_278]) (mcs := []) (cus := []) (sps := []) (af_kc (by decide +kernel)) (ae_ctc aet_277 (ae_ctc aet_278 (fun _ q => absurd q List.not_mem_nil))) (fun _ q => absurd q List.not_mem_nil)
/-! LastLayerModel.isTires: 10 steps -/
noncomputable def aec_292 : ae_Ct := (234, [(2, 219, 0, 0)], some (0, 0, 1), [], [], [[]], true, 1)
theorem aet_292 : ae_CT aec_292 := ae_con_ok ae_rok_ok ae_fok_ok (fuel := 100000) (cts := [aec_277, aec_278]) (mcs := []) (cus := []) (sps := []) (af_kc (by decide +kernel)) (ae_ctc aet_277 (ae_ctc aet_278 (fun _ q => absurd q List.not_mem_nil))) (fun _ q => absurd q List.not_mem_nil)
/-! LastLayerModel.isReach: 10 steps -/
noncomputable def aec_293 : ae_Ct := (236, [(2, 219, 0, 0)], some (0, 0, 1), [], [], [[]], true, 1)
theorem aet_293 : ae_CT aec_293 := ae_con_ok ae_rok_ok ae_fok_ok (fuel := 100000) (cts := [aec_277, aec_278]) (mcs := []) (cus := []) (sps := []) (af_kc (by decide +kernel)) (ae_ctc aet_277 (ae_ctc aet_278 (fun _ q => absurd q List.not_mem_nil))) (fun _ q => absurd q List.not_mem_nil)
/-! LastLayerModel.tollWord: 51 steps -/
noncomputable def aec_294 : ae_Ct := (237, [(2, 219, 0, 0)], some (0, (-1), 3), [], [], [[]], true, 1)
theorem aet_294 : ae_CT aec_294 := ae_con_ok ae_rok_ok ae_fok_ok (fuel := 100000) (cts := [aec_277, aec_278]) (mcs := []) (cus := []) (sps := []) (af_kc (by decide +kernel)) (ae_ctc aet_277 (ae_ctc aet_278 (fun _ q => absurd q List.not_mem_nil))) (fun _ q => absurd q List.not_mem_nil)
/-! LastLayerModel.isNet: 10 steps -/
noncomputable def aec_295 : ae_Ct := (229, [(2, 219, 0, 0)], some (0, 0, 1), [], [], [[]], true, 1)
theorem aet_295 : ae_CT aec_295 := ae_con_ok ae_rok_ok ae_fok_ok (fuel := 100000) (cts := [aec_277, aec_278]) (mcs := []) (cus := []) (sps := []) (af_kc (by decide +kernel)) (ae_ctc aet_277 (ae_ctc aet_278 (fun _ q => absurd q List.not_mem_nil))) (fun _ q => absurd q List.not_mem_nil)
/-! LastLayerModel.stepWord: 128 steps -/
noncomputable def aec_296 : ae_Ct := (238, [(2, 219, 0, 0)], some (0, (-1), 10), [], [], [[]], true, 2)
theorem aet_296 : ae_CT aec_296 := ae_con_ok ae_rok_ok ae_fok_ok (fuel := 100000) (cts := [aec_277, aec_278, aec_295]) (mcs := []) (cus := []) (sps := []) (af_kc (by decide +kernel)) (ae_ctc aet_277 (ae_ctc aet_278 (ae_ctc aet_295 (fun _ q => absurd q List.not_mem_nil)))) (fun _ q => absurd q List.not_mem_nil)
/-! LastLayerModel.testWord: 39 steps -/
noncomputable def aec_297 : ae_Ct := (239, [(2, 219, 0, 0)], some (0, (-1), 2), [], [], [[]], true, 1)
theorem aet_297 : ae_CT aec_297 := ae_con_ok ae_rok_ok ae_fok_ok (fuel := 100000) (cts := [aec_277, aec_278]) (mcs := []) (cus := []) (sps := []) (af_kc (by decide +kernel)) (ae_ctc aet_277 (ae_ctc aet_278 (fun _ q => absurd q List.not_mem_nil))) (fun _ q => absurd q List.not_mem_nil)
/-! LastLayerModel.isEnd: 10 steps -/
noncomputable def aec_298 : ae_Ct := (240, [(2, 219, 0, 0)], some (0, 0, 1), [], [], [[]], true, 1)
theorem aet_298 : ae_CT aec_298 := ae_con_ok ae_rok_ok ae_fok_ok (fuel := 100000) (cts := [aec_277, aec_278]) (mcs := []) (cus := []) (sps := []) (af_kc (by decide +kernel)) (ae_ctc aet_277 (ae_ctc aet_278 (fun _ q => absurd q List.not_mem_nil))) (fun _ q => absurd q List.not_mem_nil)
/-! LastLayerModel.isKept: 93 steps -/
noncomputable def aec_299 : ae_Ct := (241, [(2, 219, 0, 0)], some (0, 0, 1), [], [], [[]], true, 3)
theorem aet_299 : ae_CT aec_299 := ae_con_ok ae_rok_ok ae_fok_ok (fuel := 100000) (cts := [aec_279, aec_280, aec_281, aec_282, aec_285, aec_286, aec_287, aec_288, aec_289, aec_290, aec_291, aec_292, aec_293, aec_294, aec_296, aec_297, aec_298]) (mcs := []) (cus := []) (sps := []) (af_kc (by decide +kernel)) (ae_ctc aet_279 (ae_ctc aet_280 (ae_ctc aet_281 (ae_ctc aet_282 (ae_ctc aet_285 (ae_ctc aet_286 (ae_ctc aet_287 (ae_ctc aet_288 (ae_ctc aet_289 (ae_ctc aet_290 (ae_ctc aet_291 (ae_ctc aet_292 (ae_ctc aet_293 (ae_ctc aet_294 (ae_ctc aet_296 (ae_ctc aet_297 (ae_ctc aet_298 (fun _ q => absurd q List.not_mem_nil)))))))))))))))))) (fun _ q => absurd q List.not_mem_nil)
/-! LastLayerModel.named: 38 steps -/
noncomputable def aec_300 : ae_Ct := (253, [(2, 219, 0, 0), (0, 0, 4, 4), (0, 0, 0, 0)], some (0, (-1), 3), [], [], [[]], false, 0)
theorem aet_300 : ae_CT aec_300 := ae_con_ok ae_rok_ok ae_fok_ok (fuel := 100000) (cts := []) (mcs := []) (cus := [(253, 2, ([0, 1, 2], [(0, 3, 0, 0, false, 0, 4, 0, 4)], [], [], 0, true))]) (sps := []) (af_kc (by decide +kernel)) (fun _ q => absurd q List.not_mem_nil) (fun _ q => absurd q List.not_mem_nil)
/-! LastLayerModel.named: 38 steps -/
noncomputable def aec_301 : ae_Ct := (253, [(2, 219, 0, 0), (0, 0, 4, 4), (0, 0, 1, 1)], some (0, (-1), 3), [], [], [[]], false, 0)
theorem aet_301 : ae_CT aec_301 := ae_con_ok ae_rok_ok ae_fok_ok (fuel := 100000) (cts := []) (mcs := []) (cus := [(253, 2, ([0, 1, 2], [(0, 3, 0, 0, false, 0, 4, 0, 4)], [], [], 0, true))]) (sps := []) (af_kc (by decide +kernel)) (fun _ q => absurd q List.not_mem_nil) (fun _ q => absurd q List.not_mem_nil)
/-! LastLayerModel.named: 38 steps -/
noncomputable def aec_302 : ae_Ct := (253, [(2, 219, 0, 0), (0, 0, 4, 4), (0, 0, 2, 2)], some (0, (-1), 3), [], [], [[]], false, 0)
theorem aet_302 : ae_CT aec_302 := ae_con_ok ae_rok_ok ae_fok_ok (fuel := 100000) (cts := []) (mcs := []) (cus := [(253, 2, ([0, 1, 2], [(0, 3, 0, 0, false, 0, 4, 0, 4)], [], [], 0, true))]) (sps := []) (af_kc (by decide +kernel)) (fun _ q => absurd q List.not_mem_nil) (fun _ q => absurd q List.not_mem_nil)
/-! LastLayerModel.named: 38 steps -/
noncomputable def aec_303 : ae_Ct := (253, [(2, 219, 0, 0), (0, 0, 4, 4), (0, 0, 3, 3)], some (0, (-1), 3), [], [], [[]], false, 0)
theorem aet_303 : ae_CT aec_303 := ae_con_ok ae_rok_ok ae_fok_ok (fuel := 100000) (cts := []) (mcs := []) (cus := [(253, 2, ([0, 1, 2], [(0, 3, 0, 0, false, 0, 4, 0, 4)], [], [], 0, true))]) (sps := []) (af_kc (by decide +kernel)) (fun _ q => absurd q List.not_mem_nil) (fun _ q => absurd q List.not_mem_nil)
/-! LastLayerModel.readBoy from 30: 39 steps -/
noncomputable def aec_304 : ae_Ct := (259, [(2, 219, 0, 0), (0, 0, 0, 3)], none, [(224, 1641, 1644)], [(219, 12), (224, 1543), (219, 16), (219, 14)], [[(false, 0, 1, 7), (false, 0, 0, 4), (false, 0, 0, 900), (false, 0, 0, 4)], [(true, 0, 0, 0), (false, 0, 0, 4), (true, 0, 0, 900), (false, 0, 0, 4)]], false, 2)
theorem aet_304 : ae_CS 30 [(1, 7)] aec_304 := ae_suf_ok ae_rok_ok ae_fok_ok (fuel := 100000) (cts := [aec_293]) (mcs := []) (cus := []) (sps := []) (sfs := []) (af_kc (by decide +kernel)) (ae_ctc aet_293 (fun _ q => absurd q List.not_mem_nil)) (fun _ q => absurd q List.not_mem_nil) (fun _ q => absurd q List.not_mem_nil)
/-! LastLayerModel.readBoy from 14: 19 steps -/
noncomputable def aec_305 : ae_Ct := (259, [(2, 219, 0, 0), (0, 0, 0, 3)], none, [(224, 1637, 1644)], [(219, 12), (224, 1543), (219, 16), (219, 14)], [[(false, 0, 1, 7), (false, 0, 0, 4), (false, 0, 0, 900), (false, 0, 0, 4)], [(true, 0, 0, 0), (false, 0, 0, 4), (true, 0, 0, 900), (false, 0, 0, 4)]], false, 2)
theorem aet_305 : ae_CS 14 [(1, 7)] aec_305 := ae_suf_ok ae_rok_ok ae_fok_ok (fuel := 100000) (cts := []) (mcs := []) (cus := []) (sps := []) (sfs := [(30, [(1, 7)], aec_304)]) (af_kc (by decide +kernel)) (fun _ q => absurd q List.not_mem_nil) (fun _ q => absurd q List.not_mem_nil) (ae_sfc aet_304 (fun _ q => absurd q List.not_mem_nil))
/-! LastLayerModel.readBoy from 6: 9 steps -/
noncomputable def aec_306 : ae_Ct := (259, [(2, 219, 0, 0), (0, 0, 0, 3)], none, [(224, 1637, 1644)], [(219, 12), (224, 1543), (219, 16), (219, 14)], [[(false, 0, 1, 7), (false, 0, 0, 4), (false, 0, 0, 900), (false, 0, 0, 4)], [(true, 0, 0, 0), (false, 0, 0, 4), (true, 0, 0, 900), (false, 0, 0, 4)]], false, 2)
theorem aet_306 : ae_CS 6 [(1, 7)] aec_306 := ae_suf_ok ae_rok_ok ae_fok_ok (fuel := 100000) (cts := [aec_290]) (mcs := []) (cus := []) (sps := []) (sfs := [(14, [(1, 7)], aec_305)]) (af_kc (by decide +kernel)) (ae_ctc aet_290 (fun _ q => absurd q List.not_mem_nil)) (fun _ q => absurd q List.not_mem_nil) (ae_sfc aet_305 (fun _ q => absurd q List.not_mem_nil))
/-! LastLayerModel.readBoy from 30: 388 steps -/
noncomputable def aec_307 : ae_Ct := (259, [(2, 219, 0, 0), (0, 0, 0, 3)], none, [(219, 12, 19), (224, 1543, 1543), (224, 1641, 1644)], [(219, 12), (224, 1543), (219, 16), (219, 14)], [[(false, 0, 1, 7), (false, 0, 0, 4), (false, 0, 0, 900), (false, 0, 0, 4)], [(true, 0, 0, 0), (false, 0, 0, 4), (true, 0, 0, 900), (false, 0, 0, 4)]], false, 4)
theorem aet_307 : ae_CS 30 [(0, 0), (0, 3)] aec_307 := ae_suf_ok ae_rok_ok ae_fok_ok (fuel := 100000) (cts := [aec_276, aec_293]) (mcs := []) (cus := []) (sps := []) (sfs := []) (af_kc (by decide +kernel)) (ae_ctc aet_276 (ae_ctc aet_293 (fun _ q => absurd q List.not_mem_nil))) (fun _ q => absurd q List.not_mem_nil) (fun _ q => absurd q List.not_mem_nil)
/-! LastLayerModel.readBoy from 14: 244 steps -/
noncomputable def aec_308 : ae_Ct := (259, [(2, 219, 0, 0), (0, 0, 0, 3)], none, [(219, 12, 19), (224, 1543, 1543), (224, 1637, 1644)], [(219, 12), (224, 1543), (219, 16), (219, 14)], [[(false, 0, 1, 7), (false, 0, 0, 4), (false, 0, 0, 900), (false, 0, 0, 4)], [(true, 0, 0, 0), (false, 0, 0, 4), (true, 0, 0, 900), (false, 0, 0, 4)]], false, 6)
theorem aet_308 : ae_CS 14 [(0, 0), (0, 3)] aec_308 := ae_suf_ok ae_rok_ok ae_fok_ok (fuel := 100000) (cts := [aec_276, aec_299, aec_301]) (mcs := []) (cus := []) (sps := []) (sfs := [(30, [(1, 7)], aec_304), (30, [(0, 0), (0, 3)], aec_307)]) (af_kc (by decide +kernel)) (ae_ctc aet_276 (ae_ctc aet_299 (ae_ctc aet_301 (fun _ q => absurd q List.not_mem_nil)))) (fun _ q => absurd q List.not_mem_nil) (ae_sfc aet_304 (ae_sfc aet_307 (fun _ q => absurd q List.not_mem_nil)))
/-! LastLayerModel.readBoy from 6: 59 steps -/
noncomputable def aec_309 : ae_Ct := (259, [(2, 219, 0, 0), (0, 0, 0, 3)], none, [(219, 12, 19), (224, 1543, 1543), (224, 1637, 1644)], [(219, 12), (224, 1543), (219, 16), (219, 14)], [[(false, 0, 1, 7), (false, 0, 0, 4), (false, 0, 0, 900), (false, 0, 0, 4)], [(true, 0, 0, 0), (false, 0, 0, 4), (true, 0, 0, 900), (false, 0, 0, 4)]], false, 6)
theorem aet_309 : ae_CS 6 [(0, 0), (0, 3)] aec_309 := ae_suf_ok ae_rok_ok ae_fok_ok (fuel := 100000) (cts := [aec_276, aec_290]) (mcs := []) (cus := []) (sps := []) (sfs := [(14, [(1, 7)], aec_305), (14, [(0, 0), (0, 3)], aec_308)]) (af_kc (by decide +kernel)) (ae_ctc aet_276 (ae_ctc aet_290 (fun _ q => absurd q List.not_mem_nil))) (fun _ q => absurd q List.not_mem_nil) (ae_sfc aet_305 (ae_sfc aet_308 (fun _ q => absurd q List.not_mem_nil)))
/-! LastLayerModel.readBoy: 377 steps -/
noncomputable def aec_310 : ae_Ct := (259, [(2, 219, 0, 0)], none, [(219, 12, 19), (224, 1543, 1543), (224, 1637, 1644), (226, 76, 79)], [(219, 16), (219, 14), (219, 12)], [[(false, 0, 0, 900), (false, 0, 0, 4), (false, 0, 1, 7)], [(true, 0, 0, 900), (false, 0, 0, 4), (true, 0, 0, 0)]], false, 6)
theorem aet_310 : ae_CT aec_310 := ae_con_oks ae_rok_ok ae_fok_ok (fuel := 100000) (cts := [aec_276, aec_299, aec_300, aec_301, aec_302, aec_303]) (mcs := []) (cus := []) (sps := []) (sfs := [(6, [(1, 7)], aec_306), (6, [(0, 0), (0, 3)], aec_309)]) (af_kc (by decide +kernel)) (ae_ctc aet_276 (ae_ctc aet_299 (ae_ctc aet_300 (ae_ctc aet_301 (ae_ctc aet_302 (ae_ctc aet_303 (fun _ q => absurd q List.not_mem_nil))))))) (fun _ q => absurd q List.not_mem_nil) (ae_sfc aet_306 (ae_sfc aet_309 (fun _ q => absurd q List.not_mem_nil)))
/-! LastLayerModel.readDog from 51: 39 steps -/
noncomputable def aec_311 : ae_Ct := (258, [(2, 219, 0, 0), (0, 0, 0, 3)], none, [(224, 1625, 1628)], [(219, 12), (224, 1542), (219, 16), (219, 14)], [[(false, 0, 1, 7), (false, 0, 0, 4), (false, 0, 0, 900), (false, 0, 0, 4)], [(true, 0, 0, 0), (false, 0, 0, 4), (true, 0, 0, 900), (false, 0, 0, 4)]], false, 2)
theorem aet_311 : ae_CS 51 [(1, 7)] aec_311 := ae_suf_ok ae_rok_ok ae_fok_ok (fuel := 100000) (cts := [aec_292]) (mcs := []) (cus := []) (sps := []) (sfs := []) (af_kc (by decide +kernel)) (ae_ctc aet_292 (fun _ q => absurd q List.not_mem_nil)) (fun _ q => absurd q List.not_mem_nil) (fun _ q => absurd q List.not_mem_nil)
/-! LastLayerModel.readDog from 30: 36 steps -/
noncomputable def aec_312 : ae_Ct := (258, [(2, 219, 0, 0), (0, 0, 0, 3)], none, [(224, 1621, 1628)], [(219, 12), (224, 1542), (219, 16), (219, 14)], [[(false, 0, 1, 7), (false, 0, 0, 4), (false, 0, 0, 900), (false, 0, 0, 4)], [(true, 0, 0, 0), (false, 0, 0, 4), (true, 0, 0, 900), (false, 0, 0, 4)]], false, 2)
theorem aet_312 : ae_CS 30 [(1, 7)] aec_312 := ae_suf_ok ae_rok_ok ae_fok_ok (fuel := 100000) (cts := [aec_291]) (mcs := []) (cus := []) (sps := []) (sfs := [(51, [(1, 7)], aec_311)]) (af_kc (by decide +kernel)) (ae_ctc aet_291 (fun _ q => absurd q List.not_mem_nil)) (fun _ q => absurd q List.not_mem_nil) (ae_sfc aet_311 (fun _ q => absurd q List.not_mem_nil))
/-! LastLayerModel.readDog from 14: 19 steps -/
noncomputable def aec_313 : ae_Ct := (258, [(2, 219, 0, 0), (0, 0, 0, 3)], none, [(224, 1617, 1628)], [(219, 12), (224, 1542), (219, 16), (219, 14)], [[(false, 0, 1, 7), (false, 0, 0, 4), (false, 0, 0, 900), (false, 0, 0, 4)], [(true, 0, 0, 0), (false, 0, 0, 4), (true, 0, 0, 900), (false, 0, 0, 4)]], false, 2)
theorem aet_313 : ae_CS 14 [(1, 7)] aec_313 := ae_suf_ok ae_rok_ok ae_fok_ok (fuel := 100000) (cts := []) (mcs := []) (cus := []) (sps := []) (sfs := [(30, [(1, 7)], aec_312)]) (af_kc (by decide +kernel)) (fun _ q => absurd q List.not_mem_nil) (fun _ q => absurd q List.not_mem_nil) (ae_sfc aet_312 (fun _ q => absurd q List.not_mem_nil))
/-! LastLayerModel.readDog from 6: 9 steps -/
noncomputable def aec_314 : ae_Ct := (258, [(2, 219, 0, 0), (0, 0, 0, 3)], none, [(224, 1617, 1628)], [(219, 12), (224, 1542), (219, 16), (219, 14)], [[(false, 0, 1, 7), (false, 0, 0, 4), (false, 0, 0, 900), (false, 0, 0, 4)], [(true, 0, 0, 0), (false, 0, 0, 4), (true, 0, 0, 900), (false, 0, 0, 4)]], false, 2)
theorem aet_314 : ae_CS 6 [(1, 7)] aec_314 := ae_suf_ok ae_rok_ok ae_fok_ok (fuel := 100000) (cts := [aec_290]) (mcs := []) (cus := []) (sps := []) (sfs := [(14, [(1, 7)], aec_313)]) (af_kc (by decide +kernel)) (ae_ctc aet_290 (fun _ q => absurd q List.not_mem_nil)) (fun _ q => absurd q List.not_mem_nil) (ae_sfc aet_313 (fun _ q => absurd q List.not_mem_nil))
/-! LastLayerModel.readDog from 51: 388 steps -/
noncomputable def aec_315 : ae_Ct := (258, [(2, 219, 0, 0), (0, 0, 0, 3)], none, [(219, 12, 19), (224, 1542, 1542), (224, 1625, 1628)], [(219, 12), (224, 1542), (219, 16), (219, 14)], [[(false, 0, 1, 7), (false, 0, 0, 4), (false, 0, 0, 900), (false, 0, 0, 4)], [(true, 0, 0, 0), (false, 0, 0, 4), (true, 0, 0, 900), (false, 0, 0, 4)]], false, 4)
theorem aet_315 : ae_CS 51 [(0, 0), (0, 3)] aec_315 := ae_suf_ok ae_rok_ok ae_fok_ok (fuel := 100000) (cts := [aec_276, aec_292]) (mcs := []) (cus := []) (sps := []) (sfs := []) (af_kc (by decide +kernel)) (ae_ctc aet_276 (ae_ctc aet_292 (fun _ q => absurd q List.not_mem_nil))) (fun _ q => absurd q List.not_mem_nil) (fun _ q => absurd q List.not_mem_nil)

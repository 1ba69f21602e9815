/-! Contracts 266 to 315 -/
/-! LastLayerModel.status: 6 steps -/
noncomputable def aec_266 : ae_Ct := (197, [(2, 219, 0, 0)], some (0, (-2147483648), 2147483647), [(219, 1, 1)], [], [[]], false, 0)
theorem aet_266 : ae_CT aec_266 := ae_con_ok ae_rok_ok ae_fok_ok (fuel := 100000) (cts := []) (mcs := []) (cus := []) (sps := []) (af_kc (by decide +kernel)) (fun _ q => absurd q List.not_mem_nil) (fun _ q => absurd q List.not_mem_nil)
/-! LastLayerModel.top: 6 steps -/
noncomputable def aec_267 : ae_Ct := (198, [(2, 219, 0, 0)], some (1, (-9223372036854775808), 9223372036854775807), [(219, 1, 1)], [], [[]], false, 0)
theorem aet_267 : ae_CT aec_267 := ae_con_ok ae_rok_ok ae_fok_ok (fuel := 100000) (cts := []) (mcs := []) (cus := []) (sps := []) (af_kc (by decide +kernel)) (fun _ q => absurd q List.not_mem_nil) (fun _ q => absurd q List.not_mem_nil)
/-! LastLayerModel.bottom: 6 steps -/
noncomputable def aec_268 : ae_Ct := (199, [(2, 219, 0, 0)], some (1, (-9223372036854775808), 9223372036854775807), [(219, 1, 1)], [], [[]], false, 0)
theorem aet_268 : ae_CT aec_268 := ae_con_ok ae_rok_ok ae_fok_ok (fuel := 100000) (cts := []) (mcs := []) (cus := []) (sps := []) (af_kc (by decide +kernel)) (fun _ q => absurd q List.not_mem_nil) (fun _ q => absurd q List.not_mem_nil)
/-! LastLayerModel.tray: 104 steps -/
noncomputable def aec_269 : ae_Ct := (205, [(2, 219, 0, 0), (0, 0, (-2147483648), 2147483647), (0, 0, (-2147483648), 2147483647), (0, 0, (-2147483648), 2147483647)], some (0, 0, 1), [(219, 0, 1), (220, 0, 3), (221, 0, 3), (222, 0, 239)], [], [[]], false, 1)
theorem aet_269 : ae_CT aec_269 := ae_con_ok ae_rok_ok ae_fok_ok (fuel := 100000) (cts := []) (mcs := []) (cus := [(205, 74, ([0, 1, 2, 3], [(0, 4, 0, 0, false, 0, 60, 0, 60)], [(222, 0, 239)], [], 0, true))]) (sps := []) (af_kc (by decide +kernel)) (fun _ q => absurd q List.not_mem_nil) (fun _ q => absurd q List.not_mem_nil)
/-! LastLayerModel.write: 155 steps -/
noncomputable def aec_270 : ae_Ct := (208, [(2, 219, 0, 0), (0, 0, (-2147483648), 2147483647), (0, 0, (-2147483648), 2147483647), (1, 0, (-9223372036854775808), 9223372036854775807)], some (0, 0, 1), [(219, 0, 1), (222, 0, 239)], [], [[]], false, 2)
theorem aet_270 : ae_CT aec_270 := ae_con_ok ae_rok_ok ae_fok_ok (fuel := 100000) (cts := []) (mcs := []) (cus := []) (sps := []) (af_kc (by decide +kernel)) (fun _ q => absurd q List.not_mem_nil) (fun _ q => absurd q List.not_mem_nil)
/-! LastLayerModel.read: 117 steps -/
noncomputable def aec_271 : ae_Ct := (209, [(2, 219, 0, 0), (0, 0, (-2147483648), 2147483647), (0, 0, (-2147483648), 2147483647)], some (1, (-9223372036854775808), 9223372036854775807), [(219, 0, 1)], [], [[]], false, 2)
theorem aet_271 : ae_CT aec_271 := ae_con_ok ae_rok_ok ae_fok_ok (fuel := 100000) (cts := []) (mcs := []) (cus := []) (sps := []) (af_kc (by decide +kernel)) (fun _ q => absurd q List.not_mem_nil) (fun _ q => absurd q List.not_mem_nil)
/-! LastLayerModel.pour: 263 steps -/
noncomputable def aec_272 : ae_Ct := (210, [(2, 219, 0, 0), (0, 0, (-2147483648), 2147483647), (0, 0, (-2147483648), 2147483647), (0, 0, (-2147483648), 2147483647), (0, 0, (-2147483648), 2147483647), (0, 0, (-2147483648), 2147483647)], some (0, 0, 1), [(219, 0, 1), (222, 0, 239)], [], [[]], false, 1)
theorem aet_272 : ae_CT aec_272 := ae_con_ok ae_rok_ok ae_fok_ok (fuel := 100000) (cts := []) (mcs := []) (cus := [(210, 158, ([0, 1, 2, 3, 4, 5, 6], [(0, 7, 0, 0, false, 0, 60, 0, 60)], [(222, 0, 239)], [], 0, true))]) (sps := []) (af_kc (by decide +kernel)) (fun _ q => absurd q List.not_mem_nil) (fun _ q => absurd q List.not_mem_nil)
/-! LastLayerModel.isTray: 23 steps -/
/-! LastLayerModel.feed: 474 steps -/
/-! LastLayerModel.fault: 23 steps -/
noncomputable def aec_275 : ae_Ct := (252, [(2, 219, 0, 0), (0, 0, (-2147483648), 2147483647)], some (0, (-2147483648), 2147483647), [(219, 1, 1)], [], [[]], false, 0)
theorem aet_275 : ae_CT aec_275 := ae_con_ok ae_rok_ok ae_fok_ok (fuel := 100000) (cts := []) (mcs := []) (cus := []) (sps := []) (af_kc (by decide +kernel)) (fun _ q => absurd q List.not_mem_nil) (fun _ q => absurd q List.not_mem_nil)
/-! LastLayerModel.next: 1016 steps -/
/-! LastLayerModel.spelled: 222 steps -/
/-! LastLayerModel.isWord: 20 steps -/
/-! LastLayerModel.isRick: 10 steps -/
/-! LastLayerModel.isSide: 10 steps -/
/-! LastLayerModel.isDog: 10 steps -/
/-! LastLayerModel.isBoy: 10 steps -/
/-! LastLayerModel.copy: 28 steps -/
/-! LastLayerModel.yard from 182: 49 steps -/
/-! LastLayerModel.isHolds: 10 steps -/
/-! LastLayerModel.isLayers: 10 steps -/
/-! LastLayerModel.isCaps: 10 steps -/
/-! LastLayerModel.isWeight: 10 steps -/
/-! LastLayerModel.isTo: 10 steps -/
/-! LastLayerModel.isAt: 10 steps -/
/-! LastLayerModel.isCatches: 14 steps -/
/-! LastLayerModel.isTires: 10 steps -/
/-! LastLayerModel.isReach: 10 steps -/
/-! LastLayerModel.tollWord: 51 steps -/
/-! LastLayerModel.isNet: 10 steps -/
/-! LastLayerModel.stepWord: 128 steps -/
/-! LastLayerModel.testWord: 39 steps -/
/-! LastLayerModel.isEnd: 10 steps -/
/-! LastLayerModel.isKept: 93 steps -/
/-! LastLayerModel.named: 38 steps -/
/-! LastLayerModel.named: 38 steps -/
/-! LastLayerModel.named: 38 steps -/
/-! LastLayerModel.named: 38 steps -/
/-! LastLayerModel.readBoy from 30: 39 steps -/
/-! LastLayerModel.readBoy from 14: 19 steps -/
/-! LastLayerModel.readBoy from 6: 9 steps -/
/-! LastLayerModel.readBoy from 30: 388 steps -/
/-! LastLayerModel.readBoy from 14: 244 steps -/
/-! LastLayerModel.readBoy from 6: 59 steps -/
/-! LastLayerModel.readBoy: 377 steps -/
/-! LastLayerModel.readDog from 51: 39 steps -/
/-! LastLayerModel.readDog from 30: 36 steps -/
/-! LastLayerModel.readDog from 14: 19 steps -/
/-! LastLayerModel.readDog from 6: 9 steps -/
/-! LastLayerModel.readDog from 51: 388 steps -/

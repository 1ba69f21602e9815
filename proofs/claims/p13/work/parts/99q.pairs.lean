/-! All pairs of calls -/
section LWQ
variable {L : Nat} {xs : Nat → Int32}
theorem lw_q0 : lw_trc lw_TT aec_8 aec_266 [] 0 = true := by decide +kernel
theorem lw_q1 : lw_trc lw_TT aec_9 aec_267 [] 1 = true := by decide +kernel
theorem lw_q2 : lw_trc lw_TT aec_10 aec_268 [] 1 = true := by decide +kernel
theorem lw_q3 : lw_trc lw_TT aec_15 aec_269 [(0, 0, (-2147483648), 2147483647), (0, 0, (-2147483648), 2147483647), (0, 0, (-2147483648), 2147483647)] 0 = true := by decide +kernel
theorem lw_q4 : lw_trc lw_TT aec_17 aec_270 [(0, 0, (-2147483648), 2147483647), (0, 0, (-2147483648), 2147483647), (1, 0, (-9223372036854775808), 9223372036854775807)] 0 = true := by decide +kernel
theorem lw_q5 : lw_trc lw_TT aec_18 aec_271 [(0, 0, (-2147483648), 2147483647), (0, 0, (-2147483648), 2147483647)] 1 = true := by decide +kernel
theorem lw_q6 : lw_trc lw_TT aec_19 aec_272 [(0, 0, (-2147483648), 2147483647), (0, 0, (-2147483648), 2147483647), (0, 0, (-2147483648), 2147483647), (0, 0, (-2147483648), 2147483647), (0, 0, (-2147483648), 2147483647)] 0 = true := by decide +kernel
theorem lw_q10 : lw_trc lw_TT aec_67 aec_275 [(0, 0, (-2147483648), 2147483647)] 0 = true := by decide +kernel
theorem lw_q18 : lw_trc lw_TT aec_80 aec_368 [] 0 = true := by decide +kernel
theorem lw_q19 : lw_trc lw_TT aec_81 aec_394 [] 0 = true := by decide +kernel
theorem lw_q20 : lw_trc lw_TT aec_82 aec_395 [(0, 0, (-2147483648), 2147483647), (0, 0, (-2147483648), 2147483647)] 0 = true := by decide +kernel
theorem lw_q31 : lw_trc lw_TT aec_118 aec_420 [(0, 0, (-2147483648), 2147483647), (0, 0, (-2147483648), 2147483647)] 0 = true := by decide +kernel
theorem lw_q32 : lw_trc lw_TT aec_132 rsc_423 [(0, 0, (-2147483648), 2147483647), (0, 0, 0, 1), (0, 0, (-2147483648), 2147483647)] 0 = true := by decide +kernel
theorem lw_q33 : lw_trc lw_TT aec_144 rsc_428 [(0, 0, (-2147483648), 2147483647), (0, 0, (-2147483648), 2147483647), (0, 0, (-2147483648), 2147483647)] 0 = true := by decide +kernel
theorem lw_q34 : lw_trc lw_TT aec_146 rsc_429 [(0, 0, (-2147483648), 2147483647), (0, 0, (-2147483648), 2147483647)] 0 = true := by decide +kernel
theorem lw_q35 : lw_trc lw_TT aec_147 aec_430 [] 0 = true := by decide +kernel
theorem lw_q36 : lw_trc lw_TT aec_191 rsc_431 [(0, 0, (-2147483648), 2147483647), (0, 0, (-2147483648), 2147483647)] 0 = true := by decide +kernel
theorem lw_q37 : lw_trc lw_TT aec_192 aec_432 [(0, 0, (-2147483648), 2147483647)] 0 = true := by decide +kernel
theorem lw_q38 : lw_trc lw_TT aec_196 rsc_480 [(0, 0, (-2147483648), 2147483647)] 0 = true := by decide +kernel
theorem lw_q39 : lw_trc lw_TT aec_197 aec_481 [(0, 0, (-2147483648), 2147483647)] 0 = true := by decide +kernel
theorem lw_q40 : lw_trc lw_TT aec_199 rsc_482 [(0, 0, (-2147483648), 2147483647)] 0 = true := by decide +kernel
theorem lw_q41 : lw_trc lw_TT aec_201 rsc_483 [(0, 0, (-2147483648), 2147483647), (0, 0, (-2147483648), 2147483647)] 0 = true := by decide +kernel
theorem lw_q44 : lw_trc lw_TT aec_208 aec_489 [(0, 0, (-2147483648), 2147483647), (0, 0, (-2147483648), 2147483647)] 0 = true := by decide +kernel
theorem lw_q45 : lw_trc lw_TT aec_210 aec_490 [(0, 0, (-2147483648), 2147483647), (0, 0, (-2147483648), 2147483647)] 0 = true := by decide +kernel
theorem lw_q46 : lw_trc lw_TT aec_212 aec_491 [(0, 0, (-2147483648), 2147483647), (0, 0, (-2147483648), 2147483647)] 1 = true := by decide +kernel
theorem lw_q47 : lw_trc lw_TT aec_214 aec_492 [(0, 0, (-2147483648), 2147483647)] 0 = true := by decide +kernel
theorem lw_q49 : lw_trc lw_TT aec_233 aec_525 [(0, 0, (-2147483648), 2147483647), (0, 0, (-2147483648), 2147483647), (0, 0, (-2147483648), 2147483647), (0, 0, (-2147483648), 2147483647)] 0 = true := by decide +kernel
theorem lw_q51 : lw_trc lw_TT aec_240 aec_530 [(0, 0, (-2147483648), 2147483647)] 0 = true := by decide +kernel
theorem lw_q52 : lw_trc lw_TT aec_251 rsc_531 [(0, 0, (-2147483648), 2147483647), (0, 0, (-2147483648), 2147483647)] 0 = true := by decide +kernel
theorem lw_every (hL : L ≤ 3072) : lw_all (lw_I lw_TT L xs) L xs :=
  ⟨(lw_triv hL lw_q0 aet_8 aet_266),
  (lw_triv hL lw_q1 aet_9 aet_267),
  (lw_triv hL lw_q2 aet_10 aet_268),
  (lw_triv hL lw_q3 aet_15 aet_269),
  (lw_triv hL lw_q4 aet_17 aet_270),
  (lw_triv hL lw_q5 aet_18 aet_271),
  (lw_triv hL lw_q6 aet_19 aet_272),
  (lw_feed hL (by decide +kernel) (by decide +kernel)),
  (lw_yardF hL (fun f h => lw_sub (by decide +kernel) h) (by decide +kernel)),
  (lw_daysF hL (fun f h => lw_sub (by decide +kernel) h) (by decide +kernel)),
  (lw_triv hL lw_q10 aet_67 aet_275),
  (ka_many_PL hL),
  (lw_weak (rick_PL hL)),
  (lw_weak (ka_layer_PL hL)),
  (lw_weak (ka_side_PL hL)),
  (lw_weak (ka_dog_PL hL)),
  (lw_weak (ka_boy_PL hL)),
  (lw_weak (ka_netted_PL hL)),
  (lw_triv hL lw_q18 aet_80 aet_368),
  (lw_triv hL lw_q19 aet_81 aet_394),
  (lw_triv hL lw_q20 aet_82 aet_395),
  (lw_weak (ka_take_PL hL)),
  (lw_weak (hour_PL hL)),
  (lw_weak (last_PL hL)),
  (lw_weak (ka_net_PL hL)),
  (lw_weak (ka_gap_PL hL)),
  (lw_weak (ka_move_PL hL)),
  (lw_weak (ka_send_PL hL)),
  (lw_weak (ka_lean_PL hL)),
  (lw_weak (ka_rest_PL hL)),
  (lw_weak (week_PL hL)),
  (lw_triv hL lw_q31 aet_118 aet_420),
  (lw_triv hL lw_q32 aet_132 rst_423),
  (lw_triv hL lw_q33 aet_144 rst_428),
  (lw_triv hL lw_q34 aet_146 rst_429),
  (lw_triv hL lw_q35 aet_147 aet_430),
  (lw_triv hL lw_q36 aet_191 rst_431),
  (lw_triv hL lw_q37 aet_192 aet_432),
  (lw_triv hL lw_q38 aet_196 rst_480),
  (lw_triv hL lw_q39 aet_197 aet_481),
  (lw_triv hL lw_q40 aet_199 rst_482),
  (lw_triv hL lw_q41 aet_201 rst_483),
  (lw_weak (ka_proudest_PL hL)),
  (lw_weak (ka_tired_PL hL)),
  (lw_triv hL lw_q44 aet_208 aet_489),
  (lw_triv hL lw_q45 aet_210 aet_490),
  (lw_triv hL lw_q46 aet_212 aet_491),
  (lw_triv hL lw_q47 aet_214 aet_492),
  (lw_weak (ka_cap_PL hL)),
  (lw_triv hL lw_q49 aet_233 aet_525),
  (lw_weak (live_PL hL)),
  (lw_triv hL lw_q51 aet_240 aet_530),
  (lw_triv hL lw_q52 aet_251 rst_531),
  (lw_weak (km_PL hL)),
  (lw_weak (kb_PL hL))⟩
end LWQ

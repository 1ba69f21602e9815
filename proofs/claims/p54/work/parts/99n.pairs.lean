/-! All pairs of calls -/
section LWQ
variable {L : Nat} {xs : Nat → Int32}
theorem lw_q0 : lw_trc lw_T aec_8 aec_266 [] 0 = true := by decide +kernel
theorem lw_q1 : lw_trc lw_T aec_9 aec_267 [] 1 = true := by decide +kernel
theorem lw_q2 : lw_trc lw_T aec_10 aec_268 [] 1 = true := by decide +kernel
theorem lw_q3 : lw_trc lw_T aec_15 aec_269 [(0, 0, (-2147483648), 2147483647), (0, 0, (-2147483648), 2147483647), (0, 0, (-2147483648), 2147483647)] 0 = true := by decide +kernel
theorem lw_q4 : lw_trc lw_T aec_17 aec_270 [(0, 0, (-2147483648), 2147483647), (0, 0, (-2147483648), 2147483647), (1, 0, (-9223372036854775808), 9223372036854775807)] 0 = true := by decide +kernel
theorem lw_q5 : lw_trc lw_T aec_18 aec_271 [(0, 0, (-2147483648), 2147483647), (0, 0, (-2147483648), 2147483647)] 1 = true := by decide +kernel
theorem lw_q6 : lw_trc lw_T aec_19 aec_272 [(0, 0, (-2147483648), 2147483647), (0, 0, (-2147483648), 2147483647), (0, 0, (-2147483648), 2147483647), (0, 0, (-2147483648), 2147483647), (0, 0, (-2147483648), 2147483647)] 0 = true := by decide +kernel
theorem lw_q10 : lw_trc lw_T aec_67 aec_275 [(0, 0, (-2147483648), 2147483647)] 0 = true := by decide +kernel
theorem lw_q11 : lw_trc lw_T aec_69 aec_360 [(0, 0, (-2147483648), 2147483647)] 0 = true := by decide +kernel
theorem lw_q12 : lw_trc lw_T aec_74 aec_362 [(0, 0, (-2147483648), 2147483647), (0, 0, (-2147483648), 2147483647)] 0 = true := by decide +kernel
theorem lw_q13 : lw_trc lw_T aec_75 aec_363 [(0, 0, (-2147483648), 2147483647), (0, 0, (-2147483648), 2147483647)] 0 = true := by decide +kernel
theorem lw_q14 : lw_trc lw_T aec_76 aec_364 [(0, 0, (-2147483648), 2147483647), (0, 0, (-2147483648), 2147483647)] 0 = true := by decide +kernel
theorem lw_q15 : lw_trc lw_T aec_77 aec_365 [(0, 0, (-2147483648), 2147483647), (0, 0, (-2147483648), 2147483647)] 0 = true := by decide +kernel
theorem lw_q16 : lw_trc lw_T aec_78 aec_366 [(0, 0, (-2147483648), 2147483647), (0, 0, (-2147483648), 2147483647)] 0 = true := by decide +kernel
theorem lw_q17 : lw_trc lw_T aec_79 aec_367 [] 0 = true := by decide +kernel
theorem lw_q18 : lw_trc lw_T aec_80 aec_368 [] 0 = true := by decide +kernel
theorem lw_q19 : lw_trc lw_T aec_81 aec_394 [] 0 = true := by decide +kernel
theorem lw_q20 : lw_trc lw_T aec_82 aec_395 [(0, 0, (-2147483648), 2147483647), (0, 0, (-2147483648), 2147483647)] 0 = true := by decide +kernel
theorem lw_q21 : lw_trc lw_T aec_83 aec_396 [(0, 0, (-2147483648), 2147483647)] 0 = true := by decide +kernel
theorem lw_q22 : lw_trc lw_T aec_99 aec_408 [] 0 = true := by decide +kernel
theorem lw_q23 : lw_trc lw_T aec_101 aec_409 [(0, 0, (-2147483648), 2147483647)] 0 = true := by decide +kernel
theorem lw_q24 : lw_trc lw_T aec_103 aec_410 [(0, 0, (-2147483648), 2147483647)] 0 = true := by decide +kernel
theorem lw_q25 : lw_trc lw_T aec_104 aec_411 [(0, 0, (-2147483648), 2147483647)] 0 = true := by decide +kernel
theorem lw_q29 : lw_trc lw_T aec_110 aec_417 [] 0 = true := by decide +kernel
theorem lw_q30 : lw_trc lw_T aec_117 aec_419 [(0, 0, (-2147483648), 2147483647)] 0 = true := by decide +kernel
theorem lw_q31 : lw_trc lw_T aec_118 aec_420 [(0, 0, (-2147483648), 2147483647), (0, 0, (-2147483648), 2147483647)] 0 = true := by decide +kernel
theorem lw_q32 : lw_trc lw_T aec_132 rsc_423 [(0, 0, (-2147483648), 2147483647), (0, 0, 0, 1), (0, 0, (-2147483648), 2147483647)] 0 = true := by decide +kernel
theorem lw_q33 : lw_trc lw_T aec_144 rsc_428 [(0, 0, (-2147483648), 2147483647), (0, 0, (-2147483648), 2147483647), (0, 0, (-2147483648), 2147483647)] 0 = true := by decide +kernel
theorem lw_q34 : lw_trc lw_T aec_146 rsc_429 [(0, 0, (-2147483648), 2147483647), (0, 0, (-2147483648), 2147483647)] 0 = true := by decide +kernel
theorem lw_q35 : lw_trc lw_T aec_147 aec_430 [] 0 = true := by decide +kernel
theorem lw_q36 : lw_trc lw_T aec_191 rsc_431 [(0, 0, (-2147483648), 2147483647), (0, 0, (-2147483648), 2147483647)] 0 = true := by decide +kernel
theorem lw_q37 : lw_trc lw_T aec_192 aec_432 [(0, 0, (-2147483648), 2147483647)] 0 = true := by decide +kernel
theorem lw_q38 : lw_trc lw_T aec_196 rsc_480 [(0, 0, (-2147483648), 2147483647)] 0 = true := by decide +kernel
theorem lw_q39 : lw_trc lw_T aec_197 aec_481 [(0, 0, (-2147483648), 2147483647)] 0 = true := by decide +kernel
theorem lw_q40 : lw_trc lw_T aec_199 rsc_482 [(0, 0, (-2147483648), 2147483647)] 0 = true := by decide +kernel
theorem lw_q41 : lw_trc lw_T aec_201 rsc_483 [(0, 0, (-2147483648), 2147483647), (0, 0, (-2147483648), 2147483647)] 0 = true := by decide +kernel
theorem lw_q42 : lw_trc lw_T aec_202 aec_484 [] 0 = true := by decide +kernel
theorem lw_q43 : lw_trc lw_T aec_203 aec_485 [] 0 = true := by decide +kernel
theorem lw_q44 : lw_trc lw_T aec_208 aec_489 [(0, 0, (-2147483648), 2147483647), (0, 0, (-2147483648), 2147483647)] 0 = true := by decide +kernel
theorem lw_q45 : lw_trc lw_T aec_210 aec_490 [(0, 0, (-2147483648), 2147483647), (0, 0, (-2147483648), 2147483647)] 0 = true := by decide +kernel
theorem lw_q46 : lw_trc lw_T aec_212 aec_491 [(0, 0, (-2147483648), 2147483647), (0, 0, (-2147483648), 2147483647)] 1 = true := by decide +kernel
theorem lw_q47 : lw_trc lw_T aec_214 aec_492 [(0, 0, (-2147483648), 2147483647)] 0 = true := by decide +kernel
theorem lw_q49 : lw_trc lw_T aec_233 aec_525 [(0, 0, (-2147483648), 2147483647), (0, 0, (-2147483648), 2147483647), (0, 0, (-2147483648), 2147483647), (0, 0, (-2147483648), 2147483647)] 0 = true := by decide +kernel
theorem lw_q50 : lw_trc lw_T aec_239 aec_529 [(0, 0, (-2147483648), 2147483647)] 0 = true := by decide +kernel
theorem lw_q51 : lw_trc lw_T aec_240 aec_530 [(0, 0, (-2147483648), 2147483647)] 0 = true := by decide +kernel
theorem lw_every (hL : L ≤ 3072) : lw_all (lw_I lw_T L xs) L xs :=
  ⟨(lw_triv hL lw_q0 aet_8 aet_266),
  (lw_triv hL lw_q1 aet_9 aet_267),
  (lw_triv hL lw_q2 aet_10 aet_268),
  (lw_triv hL lw_q3 aet_15 aet_269),
  (lw_triv hL lw_q4 aet_17 aet_270),
  (lw_triv hL lw_q5 aet_18 aet_271),
  (lw_triv hL lw_q6 aet_19 aet_272),
  (lw_feed hL (by decide +kernel)),
  (lw_yard hL (by decide +kernel)),
  (lw_daysC hL (by decide +kernel)),
  (lw_triv hL lw_q10 aet_67 aet_275),
  (lw_triv hL lw_q11 aet_69 aet_360),
  (lw_triv hL lw_q12 aet_74 aet_362),
  (lw_triv hL lw_q13 aet_75 aet_363),
  (lw_triv hL lw_q14 aet_76 aet_364),
  (lw_triv hL lw_q15 aet_77 aet_365),
  (lw_triv hL lw_q16 aet_78 aet_366),
  (lw_triv hL lw_q17 aet_79 aet_367),
  (lw_triv hL lw_q18 aet_80 aet_368),
  (lw_triv hL lw_q19 aet_81 aet_394),
  (lw_triv hL lw_q20 aet_82 aet_395),
  (lw_triv hL lw_q21 aet_83 aet_396),
  (lw_triv hL lw_q22 aet_99 aet_408),
  (lw_triv hL lw_q23 aet_101 aet_409),
  (lw_triv hL lw_q24 aet_103 aet_410),
  (lw_triv hL lw_q25 aet_104 aet_411),
  (lw_weak (k_move_PL hL)),
  (lw_weak (k_send_PL hL)),
  (lw_weak (k_lean_PL hL)),
  (lw_triv hL lw_q29 aet_110 aet_417),
  (lw_triv hL lw_q30 aet_117 aet_419),
  (lw_triv hL lw_q31 aet_118 aet_420),
  (lw_triv hL lw_q32 aet_132 rst_423),
  (lw_triv hL lw_q33 aet_144 rst_428),
  (lw_triv hL lw_q34 aet_146 rst_429),
  (lw_triv hL lw_q35 aet_147 aet_430),
  (lw_triv hL lw_q36 aet_191 rst_431),
  (lw_triv hL lw_q37 aet_192 aet_432),
  (lw_triv hL lw_q38 aet_196 rst_480),
  (lw_triv hL lw_q39 aet_197 aet_481),
  (lw_triv hL lw_q40 aet_199 rst_482),
  (lw_triv hL lw_q41 aet_201 rst_483),
  (lw_triv hL lw_q42 aet_202 aet_484),
  (lw_triv hL lw_q43 aet_203 aet_485),
  (lw_triv hL lw_q44 aet_208 aet_489),
  (lw_triv hL lw_q45 aet_210 aet_490),
  (lw_triv hL lw_q46 aet_212 aet_491),
  (lw_triv hL lw_q47 aet_214 aet_492),
  (lw_weak (k_cap_PL hL)),
  (lw_triv hL lw_q49 aet_233 aet_525),
  (lw_triv hL lw_q50 aet_239 aet_529),
  (lw_triv hL lw_q51 aet_240 aet_530),
  (k_mean_PL hL),
  (lw_weak (k_mark_PL hL)),
  (lw_weak (k_back_PL hL))⟩
end LWQ

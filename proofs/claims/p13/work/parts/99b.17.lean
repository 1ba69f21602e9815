/-! The meeting point of all parts holds, in pieces -/
theorem ay_1_n : ad_pn ay_W ay_1 15 true true (13 * 2) = true := by decide +kernel
theorem ay_1_p0 : ad_pc ay_W ay_1 15 4000 true true (0 * 2) 2 = true := ai_pc_ok (af_hy_ok rfl) (by decide +kernel)
theorem ay_1_p1 : ad_pc ay_W ay_1 15 4000 true true (1 * 2) 2 = true := ai_pc_ok (af_hy_ok rfl) (by decide +kernel)
theorem ay_1_p2 : ad_pc ay_W ay_1 15 4000 true true (2 * 2) 2 = true := ai_pc_ok (af_hy_ok rfl) (by decide +kernel)
theorem ay_1_p3 : ad_pc ay_W ay_1 15 4000 true true (3 * 2) 2 = true := ai_pc_ok (af_hy_ok rfl) (by decide +kernel)
theorem ay_1_p4 : ad_pc ay_W ay_1 15 4000 true true (4 * 2) 2 = true := ai_pc_ok (af_hy_ok rfl) (by decide +kernel)
theorem ay_1_p5 : ad_pc ay_W ay_1 15 4000 true true (5 * 2) 2 = true := ai_pc_ok (af_hy_ok rfl) (by decide +kernel)
theorem ay_1_p6 : ad_pc ay_W ay_1 15 4000 true true (6 * 2) 2 = true := ai_pc_ok (af_hy_ok rfl) (by decide +kernel)
theorem ay_1_p7 : ad_pc ay_W ay_1 15 4000 true true (7 * 2) 2 = true := ai_pc_ok (af_hy_ok rfl) (by decide +kernel)
theorem ay_1_p8 : ad_pc ay_W ay_1 15 4000 true true (8 * 2) 2 = true := ai_pc_ok (af_hy_ok rfl) (by decide +kernel)
theorem ay_1_p9 : ad_pc ay_W ay_1 15 4000 true true (9 * 2) 2 = true := ai_pc_ok (af_hy_ok rfl) (by decide +kernel)
theorem ay_1_p10 : ad_pc ay_W ay_1 15 4000 true true (10 * 2) 2 = true := ai_pc_ok (af_hy_ok rfl) (by decide +kernel)
theorem ay_1_p11 : ad_pc ay_W ay_1 15 4000 true true (11 * 2) 2 = true := ai_pc_ok (af_hy_ok rfl) (by decide +kernel)
theorem ay_1_p12 : ad_pc ay_W ay_1 15 4000 true true (12 * 2) 2 = true := ai_pc_ok (af_hy_ok rfl) (by decide +kernel)
theorem ay_1_ok : ∃ n f1 f2, ab_chk ay_W n f1 f2 ay_1 = true := ad_pcs (b := 2) (K := 13) (m := 15) (n := 4000) (by decide) ay_1_n (fun i hi => match i, hi with
  | 0, _ => ay_1_p0
  | 1, _ => ay_1_p1
  | 2, _ => ay_1_p2
  | 3, _ => ay_1_p3
  | 4, _ => ay_1_p4
  | 5, _ => ay_1_p5
  | 6, _ => ay_1_p6
  | 7, _ => ay_1_p7
  | 8, _ => ay_1_p8
  | 9, _ => ay_1_p9
  | 10, _ => ay_1_p10
  | 11, _ => ay_1_p11
  | 12, _ => ay_1_p12
  | i + 13, hi => absurd hi (by omega))

/-! The meeting points hold, 0 -/
theorem ay_0_ok : ab_chk ay_W 4000 true true ay_0 = true := sorry
theorem ay_2_ok : ab_chk ay_W 4000 true true ay_2 = true := sorry
theorem ay_3_ok : ab_chk ay_W 4000 true true ay_3 = true := sorry
theorem ay_4_ok : ab_chk ay_W 4000 true true ay_4 = true := sorry
theorem ay_5_ok : ab_chk ay_W 4000 true true ay_5 = true := sorry
theorem ay_6_ok : ab_chk ay_W 4000 true true ay_6 = true := sorry
theorem ay_7_ok : ab_chk ay_W 4000 true true ay_7 = true := sorry
theorem ay_8_ok : ab_chk ay_W 4000 true true ay_8 = true := sorry
theorem ay_9_ok : ab_chk ay_W 4000 true true ay_9 = true := sorry
theorem ay_10_ok : ab_chk ay_W 4000 true true ay_10 = true := sorry
theorem ay_11_ok : ab_chk ay_W 4000 true true ay_11 = true := sorry
theorem ay_12_ok : ab_chk ay_W 4000 true true ay_12 = true := sorry
theorem ay_13_ok : ab_chk ay_W 4000 true true ay_13 = true := sorry
theorem ay_14_ok : ab_chk ay_W 4000 true true ay_14 = true := sorry
theorem ay_15_ok : ab_chk ay_W 4000 true true ay_15 = true := sorry

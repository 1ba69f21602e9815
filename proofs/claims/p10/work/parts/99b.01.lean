/-! The meeting points hold, 1 -/
theorem ay_4_ok : ab_chk ay_W 4000 true true ay_4 = true := sorry
theorem ay_5_ok : ab_chk ay_W 4000 true true ay_5 = true := sorry
theorem ay_6_ok : ab_chk ay_W 4000 true true ay_6 = true := sorry
theorem ay_7_ok : ab_chk ay_W 4000 true true ay_7 = true := sorry
theorem ay_8_ok : ab_chk ay_W 4000 true true ay_8 = true := sorry
theorem ay_9_ok : ab_chk ay_W 4000 true true ay_9 = true := sorry
theorem ay_10_ok : ab_chk ay_W 4000 true true ay_10 = true := sorry
theorem ay_11_ok : ab_chk ay_W 4000 true true ay_11 = true := sorry

/-! The meeting points hold, 10 -/
theorem ay_102_ok : ab_chk ay_W 4000 true true ay_102 = true := sorry
theorem ay_103_ok : ab_chk ay_W 4000 true true ay_103 = true := sorry
theorem ay_104_ok : ab_chk ay_W 4000 true true ay_104 = true := sorry
theorem ay_105_ok : ab_chk ay_W 4000 true true ay_105 = true := sorry
theorem ay_106_ok : ab_chk ay_W 4000 true true ay_106 = true := sorry
theorem ay_107_ok : ab_chk ay_W 4000 true true ay_107 = true := sorry
theorem ay_108_ok : ab_chk ay_W 4000 true true ay_108 = true := sorry
theorem ay_109_ok : ab_chk ay_W 4000 true true ay_109 = true := sorry
theorem ay_110_ok : ab_chk ay_W 4000 true true ay_110 = true := sorry
theorem ay_111_ok : ab_chk ay_W 4000 true true ay_111 = true := sorry
theorem ay_112_ok : ab_chk ay_W 4000 true true ay_112 = true := sorry
theorem ay_113_ok : ab_chk ay_W 4000 true true ay_113 = true := sorry
theorem ay_114_ok : ab_chk ay_W 4000 true true ay_114 = true := sorry
theorem ay_115_ok : ab_chk ay_W 4000 true true ay_115 = true := sorry

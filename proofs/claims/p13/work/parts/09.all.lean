theorem am_DL_ok {pc : Nat} (h2 : pc < 1827) : am_chk 354 pc = true := by
  rcases Nat.lt_or_ge pc 100 with q | q
  · have h3 := List.all_eq_true.mp am_DL_ok0 (pc - 0) (List.mem_range.mpr (by omega))
    rwa [show 0 + (pc - 0) = pc by omega] at h3
  rcases Nat.lt_or_ge pc 200 with q | q
  · have h3 := List.all_eq_true.mp am_DL_ok100 (pc - 100) (List.mem_range.mpr (by omega))
    rwa [show 100 + (pc - 100) = pc by omega] at h3
  rcases Nat.lt_or_ge pc 300 with q | q
  · have h3 := List.all_eq_true.mp am_DL_ok200 (pc - 200) (List.mem_range.mpr (by omega))
    rwa [show 200 + (pc - 200) = pc by omega] at h3
  rcases Nat.lt_or_ge pc 400 with q | q
  · have h3 := List.all_eq_true.mp am_DL_ok300 (pc - 300) (List.mem_range.mpr (by omega))
    rwa [show 300 + (pc - 300) = pc by omega] at h3
  rcases Nat.lt_or_ge pc 500 with q | q
  · have h3 := List.all_eq_true.mp am_DL_ok400 (pc - 400) (List.mem_range.mpr (by omega))
    rwa [show 400 + (pc - 400) = pc by omega] at h3
  rcases Nat.lt_or_ge pc 600 with q | q
  · have h3 := List.all_eq_true.mp am_DL_ok500 (pc - 500) (List.mem_range.mpr (by omega))
    rwa [show 500 + (pc - 500) = pc by omega] at h3
  rcases Nat.lt_or_ge pc 700 with q | q
  · have h3 := List.all_eq_true.mp am_DL_ok600 (pc - 600) (List.mem_range.mpr (by omega))
    rwa [show 600 + (pc - 600) = pc by omega] at h3
  rcases Nat.lt_or_ge pc 800 with q | q
  · have h3 := List.all_eq_true.mp am_DL_ok700 (pc - 700) (List.mem_range.mpr (by omega))
    rwa [show 700 + (pc - 700) = pc by omega] at h3
  rcases Nat.lt_or_ge pc 900 with q | q
  · have h3 := List.all_eq_true.mp am_DL_ok800 (pc - 800) (List.mem_range.mpr (by omega))
    rwa [show 800 + (pc - 800) = pc by omega] at h3
  rcases Nat.lt_or_ge pc 1000 with q | q
  · have h3 := List.all_eq_true.mp am_DL_ok900 (pc - 900) (List.mem_range.mpr (by omega))
    rwa [show 900 + (pc - 900) = pc by omega] at h3
  rcases Nat.lt_or_ge pc 1100 with q | q
  · have h3 := List.all_eq_true.mp am_DL_ok1000 (pc - 1000) (List.mem_range.mpr (by omega))
    rwa [show 1000 + (pc - 1000) = pc by omega] at h3
  rcases Nat.lt_or_ge pc 1200 with q | q
  · have h3 := List.all_eq_true.mp am_DL_ok1100 (pc - 1100) (List.mem_range.mpr (by omega))
    rwa [show 1100 + (pc - 1100) = pc by omega] at h3
  rcases Nat.lt_or_ge pc 1300 with q | q
  · have h3 := List.all_eq_true.mp am_DL_ok1200 (pc - 1200) (List.mem_range.mpr (by omega))
    rwa [show 1200 + (pc - 1200) = pc by omega] at h3
  rcases Nat.lt_or_ge pc 1400 with q | q
  · have h3 := List.all_eq_true.mp am_DL_ok1300 (pc - 1300) (List.mem_range.mpr (by omega))
    rwa [show 1300 + (pc - 1300) = pc by omega] at h3
  rcases Nat.lt_or_ge pc 1500 with q | q
  · have h3 := List.all_eq_true.mp am_DL_ok1400 (pc - 1400) (List.mem_range.mpr (by omega))
    rwa [show 1400 + (pc - 1400) = pc by omega] at h3
  rcases Nat.lt_or_ge pc 1600 with q | q
  · have h3 := List.all_eq_true.mp am_DL_ok1500 (pc - 1500) (List.mem_range.mpr (by omega))
    rwa [show 1500 + (pc - 1500) = pc by omega] at h3
  rcases Nat.lt_or_ge pc 1700 with q | q
  · have h3 := List.all_eq_true.mp am_DL_ok1600 (pc - 1600) (List.mem_range.mpr (by omega))
    rwa [show 1600 + (pc - 1600) = pc by omega] at h3
  rcases Nat.lt_or_ge pc 1800 with q | q
  · have h3 := List.all_eq_true.mp am_DL_ok1700 (pc - 1700) (List.mem_range.mpr (by omega))
    rwa [show 1700 + (pc - 1700) = pc by omega] at h3
  have h3 := List.all_eq_true.mp am_DL_ok1800 (pc - 1800) (List.mem_range.mpr (by omega))
  rwa [show 1800 + (pc - 1800) = pc by omega] at h3
theorem am_D_ok {y pc : Nat} (h : y < am_nM) (h2 : pc < am_mx y) : am_chk y pc = true := by
  unfold am_nM at h
  rcases Nat.lt_or_ge y 19 with q | q
  · have h3 := List.all_eq_true.mp am_D_ok0 (y - 0) (List.mem_range.mpr (by omega))
    rw [show 0 + (y - 0) = y by omega] at h3
    exact List.all_eq_true.mp h3 pc (List.mem_range.mpr h2)
  rcases Nat.lt_or_ge y 41 with q | q
  · have h3 := List.all_eq_true.mp am_D_ok19 (y - 19) (List.mem_range.mpr (by omega))
    rw [show 19 + (y - 19) = y by omega] at h3
    exact List.all_eq_true.mp h3 pc (List.mem_range.mpr h2)
  rcases Nat.lt_or_ge y 63 with q | q
  · have h3 := List.all_eq_true.mp am_D_ok41 (y - 41) (List.mem_range.mpr (by omega))
    rw [show 41 + (y - 41) = y by omega] at h3
    exact List.all_eq_true.mp h3 pc (List.mem_range.mpr h2)
  rcases Nat.lt_or_ge y 85 with q | q
  · have h3 := List.all_eq_true.mp am_D_ok63 (y - 63) (List.mem_range.mpr (by omega))
    rw [show 63 + (y - 63) = y by omega] at h3
    exact List.all_eq_true.mp h3 pc (List.mem_range.mpr h2)
  rcases Nat.lt_or_ge y 107 with q | q
  · have h3 := List.all_eq_true.mp am_D_ok85 (y - 85) (List.mem_range.mpr (by omega))
    rw [show 85 + (y - 85) = y by omega] at h3
    exact List.all_eq_true.mp h3 pc (List.mem_range.mpr h2)
  rcases Nat.lt_or_ge y 123 with q | q
  · have h3 := List.all_eq_true.mp am_D_ok107 (y - 107) (List.mem_range.mpr (by omega))
    rw [show 107 + (y - 107) = y by omega] at h3
    exact List.all_eq_true.mp h3 pc (List.mem_range.mpr h2)
  rcases Nat.lt_or_ge y 145 with q | q
  · have h3 := List.all_eq_true.mp am_D_ok123 (y - 123) (List.mem_range.mpr (by omega))
    rw [show 123 + (y - 123) = y by omega] at h3
    exact List.all_eq_true.mp h3 pc (List.mem_range.mpr h2)
  rcases Nat.lt_or_ge y 165 with q | q
  · have h3 := List.all_eq_true.mp am_D_ok145 (y - 145) (List.mem_range.mpr (by omega))
    rw [show 145 + (y - 145) = y by omega] at h3
    exact List.all_eq_true.mp h3 pc (List.mem_range.mpr h2)
  rcases Nat.lt_or_ge y 189 with q | q
  · have h3 := List.all_eq_true.mp am_D_ok165 (y - 165) (List.mem_range.mpr (by omega))
    rw [show 165 + (y - 165) = y by omega] at h3
    exact List.all_eq_true.mp h3 pc (List.mem_range.mpr h2)
  rcases Nat.lt_or_ge y 209 with q | q
  · have h3 := List.all_eq_true.mp am_D_ok189 (y - 189) (List.mem_range.mpr (by omega))
    rw [show 189 + (y - 189) = y by omega] at h3
    exact List.all_eq_true.mp h3 pc (List.mem_range.mpr h2)
  rcases Nat.lt_or_ge y 237 with q | q
  · have h3 := List.all_eq_true.mp am_D_ok209 (y - 209) (List.mem_range.mpr (by omega))
    rw [show 209 + (y - 209) = y by omega] at h3
    exact List.all_eq_true.mp h3 pc (List.mem_range.mpr h2)
  rcases Nat.lt_or_ge y 256 with q | q
  · have h3 := List.all_eq_true.mp am_D_ok237 (y - 237) (List.mem_range.mpr (by omega))
    rw [show 237 + (y - 237) = y by omega] at h3
    exact List.all_eq_true.mp h3 pc (List.mem_range.mpr h2)
  rcases Nat.lt_or_ge y 264 with q | q
  · have h3 := List.all_eq_true.mp am_D_ok256 (y - 256) (List.mem_range.mpr (by omega))
    rw [show 256 + (y - 256) = y by omega] at h3
    exact List.all_eq_true.mp h3 pc (List.mem_range.mpr h2)
  rcases Nat.lt_or_ge y 283 with q | q
  · have h3 := List.all_eq_true.mp am_D_ok264 (y - 264) (List.mem_range.mpr (by omega))
    rw [show 264 + (y - 264) = y by omega] at h3
    exact List.all_eq_true.mp h3 pc (List.mem_range.mpr h2)
  rcases Nat.lt_or_ge y 293 with q | q
  · have h3 := List.all_eq_true.mp am_D_ok283 (y - 283) (List.mem_range.mpr (by omega))
    rw [show 283 + (y - 283) = y by omega] at h3
    exact List.all_eq_true.mp h3 pc (List.mem_range.mpr h2)
  rcases Nat.lt_or_ge y 313 with q | q
  · have h3 := List.all_eq_true.mp am_D_ok293 (y - 293) (List.mem_range.mpr (by omega))
    rw [show 293 + (y - 293) = y by omega] at h3
    exact List.all_eq_true.mp h3 pc (List.mem_range.mpr h2)
  rcases Nat.lt_or_ge y 326 with q | q
  · have h3 := List.all_eq_true.mp am_D_ok313 (y - 313) (List.mem_range.mpr (by omega))
    rw [show 313 + (y - 313) = y by omega] at h3
    exact List.all_eq_true.mp h3 pc (List.mem_range.mpr h2)
  rcases Nat.lt_or_ge y 341 with q | q
  · have h3 := List.all_eq_true.mp am_D_ok326 (y - 326) (List.mem_range.mpr (by omega))
    rw [show 326 + (y - 326) = y by omega] at h3
    exact List.all_eq_true.mp h3 pc (List.mem_range.mpr h2)
  rcases Nat.lt_or_ge y 353 with q | q
  · have h3 := List.all_eq_true.mp am_D_ok341 (y - 341) (List.mem_range.mpr (by omega))
    rw [show 341 + (y - 341) = y by omega] at h3
    exact List.all_eq_true.mp h3 pc (List.mem_range.mpr h2)
  rcases Nat.lt_or_ge y 354 with q | q
  · have h3 := List.all_eq_true.mp am_D_ok353 (y - 353) (List.mem_range.mpr (by omega))
    rw [show 353 + (y - 353) = y by omega] at h3
    exact List.all_eq_true.mp h3 pc (List.mem_range.mpr h2)
  have q3 : y = 354 := by omega
  subst q3
  exact am_DL_ok (Nat.lt_of_lt_of_le h2 (Nat.le_of_ble_eq_true rfl))

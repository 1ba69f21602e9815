/-! The ends of cutting a token -/
section AQCaqj_
variable {L : Nat} {xs : Nat → Int32} {r0 : Nat → Int}
theorem aqj_fe_end (hf : ae_fok = true) : ap_ok aqj_W (aq_M L xs) L xs (fun v1 v2 e1 e2 => aq_Qc L xs (r0 1) (r0 2) (r0 3) v1 v2 e1 e2 ∧ aq_ci L xs (am_mX2 ap_b false e1 e2) 5 (r0 4).toNat = r0 5 ∧ aq_ci L xs (am_mX2 ap_b false e1 e2) 6 (r0 4).toNat = r0 6 ∧ aq_cj L xs (am_mX2 ap_b false e1 e2) 7 (r0 4).toNat = r0 7) r0 aqj_fe := by
  intro ρ g1 g2 h1 h2 S _ a
  obtain ⟨S1, S2, S3, S4, S5, S6, S7, S8, S9⟩ := S
  obtain ⟨x, rfl, hx, rfl⟩ := aq_done S5 S6
  have a1 : ρ 1 = r0 1 := a 1 (by show 1 < 8; decide)
  have a2 : ρ 2 = r0 2 := a 2 (by show 2 < 8; decide)
  have a3 : ρ 3 = r0 3 := a 3 (by show 3 < 8; decide)
  have a4 : ρ 4 = r0 4 := a 4 (by show 4 < 8; decide)
  have a5 : ρ 5 = r0 5 := a 5 (by show 5 < 8; decide)
  have a6 : ρ 6 = r0 6 := a 6 (by show 6 < 8; decide)
  have a7 : ρ 7 = r0 7 := a 7 (by show 7 < 8; decide)
  have k5j : aq_ci L xs (am_mX2 ap_b false h1 h2) 5 (r0 4).toNat = (0 : Int) + (1 * ρ 5 + 0) := by
    have := aq_ci_of S4 (p := 5) (i := (0, [(4, 1)])) (e := (0, [(5, 1)])) (by decide)
    rw [show ae_ev ρ (0, [(4, 1)]) = r0 4 by show (0 : Int) + (1 * ρ 4 + 0) = r0 4; omega] at this
    exact this
  have k6j : aq_ci L xs (am_mX2 ap_b false h1 h2) 6 (r0 4).toNat = (0 : Int) + (1 * ρ 6 + 0) := by
    have := aq_ci_of S4 (p := 6) (i := (0, [(4, 1)])) (e := (0, [(6, 1)])) (by decide)
    rw [show ae_ev ρ (0, [(4, 1)]) = r0 4 by show (0 : Int) + (1 * ρ 4 + 0) = r0 4; omega] at this
    exact this
  have k7j : aq_cj L xs (am_mX2 ap_b false h1 h2) 7 (r0 4).toNat = (0 : Int) + (1 * ρ 7 + 0) := by
    have := aq_cj_of S4 (p := 7) (i := (0, [(4, 1)])) (e := (0, [(7, 1)])) (by decide)
    rw [show ae_ev ρ (0, [(4, 1)]) = r0 4 by show (0 : Int) + (1 * ρ 4 + 0) = r0 4; omega] at this
    exact this
  have ct : aq_ci L xs (am_mX2 ap_b false h1 h2) 3 4 = (1 : Int) + (1 * ρ 1 + 0) := by
    have := aq_ci_of S4 (p := 3) (i := (4, [])) (e := (1, [(1, 1)])) (by decide)
    exact this
  have cn : aq_ci L xs (am_mX2 ap_b false h1 h2) 3 6 = (0 : Int) + (1 * ρ 2 + 0) := by
    have := aq_ci_of S4 (p := 3) (i := (6, [])) (e := (0, [(2, 1)])) (by decide)
    exact this
  have rn : aq_ci L xs (am_mX2 ap_b false h1 h2) 219 9 = (0 : Int) + (1 * ρ 2 + 0) := by
    have := aq_ci_of S4 (p := 219) (i := (9, [])) (e := (0, [(2, 1)])) (by decide)
    exact this
  have k5 : aq_ci L xs (am_mX2 ap_b false h1 h2) 5 (r0 1).toNat = (0 : Int) + 0 := by
    have := aq_ci_of S4 (p := 5) (i := (0, [(1, 1)])) (e := (0, [])) (by decide)
    rw [show ae_ev ρ (0, [(1, 1)]) = r0 1 by show (0 : Int) + (1 * ρ 1 + 0) = r0 1; omega] at this
    exact this
  have k6 : aq_ci L xs (am_mX2 ap_b false h1 h2) 6 (r0 1).toNat = (0 : Int) + (1 * ρ 2 + 0) := by
    have := aq_ci_of S4 (p := 6) (i := (0, [(1, 1)])) (e := (0, [(2, 1)])) (by decide)
    rw [show ae_ev ρ (0, [(1, 1)]) = r0 1 by show (0 : Int) + (1 * ρ 1 + 0) = r0 1; omega] at this
    exact this
  have k7 : aq_cj L xs (am_mX2 ap_b false h1 h2) 7 (r0 1).toNat = (0 : Int) + 0 := by
    have := aq_cj_of S4 (p := 7) (i := (0, [(1, 1)])) (e := (0, [])) (by decide)
    rw [show ae_ev ρ (0, [(1, 1)]) = r0 1 by show (0 : Int) + (1 * ρ 1 + 0) = r0 1; omega] at this
    exact this
  have cp : aq_ci L xs (am_mX2 ap_b false h1 h2) 3 7 = (0 : Int) + (1 * ρ 2 + 0) := by
    have := aq_ci_of S4 (p := 3) (i := (7, [])) (e := (0, [(2, 1)])) (by decide)
    exact this
  have rk : aq_ci L xs (am_mX2 ap_b false h1 h2) 219 14 = (0 : Int) + 0 := by
    have := aq_ci_of S4 (p := 219) (i := (14, [])) (e := (0, [])) (by decide)
    exact this
  have ra : aq_ci L xs (am_mX2 ap_b false h1 h2) 219 15 = (0 : Int) + (1 * ρ 2 + 0) := by
    have := aq_ci_of S4 (p := 219) (i := (15, [])) (e := (0, [(2, 1)])) (by decide)
    exact this
  have rb : aq_ci L xs (am_mX2 ap_b false h1 h2) 219 16 = (0 : Int) + (1 * ρ 2 + 0) := by
    have := aq_ci_of S4 (p := 219) (i := (16, [])) (e := (0, [(2, 1)])) (by decide)
    exact this
  have bd1 := aq_bd S1 (s := 1) (lo := 0) (hi := 900) (by decide)
  have bd2 := aq_bd S1 (s := 2) (lo := 0) (hi := 900) (by decide)
  have bd3 := aq_bd S1 (s := 3) (lo := 0) (hi := 900) (by decide)
  have f0 : (0 : Int) + (-1 * ρ 2 + (1 * ρ 3 + 0)) ≤ 0 := (S1.2.1 (0, [(2, (-1)), (3, 1)]) (by decide)).2
  have f1 : (1 : Int) + (-1 * ρ 1 + (1 * ρ 4 + 0)) ≤ 0 := (S1.2.1 (1, [(1, (-1)), (4, 1)]) (by decide)).2
  have hx : x.toInt = (0 : Int) + 0 := hx
  have hk := aq_hk_sat hf S4 (by decide)
  refine ⟨some (.int x), h1, none, h2, rfl, rfl, ap_sm_rf, ap_sm_rf, ae_fr_rf _ _ _ _, ?_⟩
  refine ⟨⟨⟨rfl, x, rfl, by omega, by rw [k5, hx]; omega⟩, hk, S7, S8, by rw [ct]; omega, by rw [cn]; omega, by rw [rn]; omega, by rw [rb, cp], by rw [cp]; omega, by rw [cp]; omega, fun h => by rw [k5] at h; rw [cp]; omega, ?_⟩, by rw [k5j]; omega, by rw [k6j]; omega, by rw [k7j]; omega⟩
  unfold aq_tokh
  rw [k5, k6, k7, rk, ra]
  exact ⟨by omega, Or.inl ⟨rfl, rfl⟩⟩
theorem aqj_fs_end (hf : ae_fok = true) : ap_ok aqj_W (aq_M L xs) L xs (fun v1 v2 e1 e2 => aq_Qc L xs (r0 1) (r0 2) (r0 3) v1 v2 e1 e2 ∧ aq_ci L xs (am_mX2 ap_b false e1 e2) 5 (r0 4).toNat = r0 5 ∧ aq_ci L xs (am_mX2 ap_b false e1 e2) 6 (r0 4).toNat = r0 6 ∧ aq_cj L xs (am_mX2 ap_b false e1 e2) 7 (r0 4).toNat = r0 7) r0 aqj_fs := by
  intro ρ g1 g2 h1 h2 S _ a
  obtain ⟨S1, S2, S3, S4, S5, S6, S7, S8, S9⟩ := S
  obtain ⟨x, rfl, hx, rfl⟩ := aq_done S5 S6
  have a1 : ρ 1 = r0 1 := a 1 (by show 1 < 8; decide)
  have a2 : ρ 2 = r0 2 := a 2 (by show 2 < 8; decide)
  have a3 : ρ 3 = r0 3 := a 3 (by show 3 < 8; decide)
  have a4 : ρ 4 = r0 4 := a 4 (by show 4 < 8; decide)
  have a5 : ρ 5 = r0 5 := a 5 (by show 5 < 8; decide)
  have a6 : ρ 6 = r0 6 := a 6 (by show 6 < 8; decide)
  have a7 : ρ 7 = r0 7 := a 7 (by show 7 < 8; decide)
  have k5j : aq_ci L xs (am_mX2 ap_b false h1 h2) 5 (r0 4).toNat = (0 : Int) + (1 * ρ 5 + 0) := by
    have := aq_ci_of S4 (p := 5) (i := (0, [(4, 1)])) (e := (0, [(5, 1)])) (by decide)
    rw [show ae_ev ρ (0, [(4, 1)]) = r0 4 by show (0 : Int) + (1 * ρ 4 + 0) = r0 4; omega] at this
    exact this
  have k6j : aq_ci L xs (am_mX2 ap_b false h1 h2) 6 (r0 4).toNat = (0 : Int) + (1 * ρ 6 + 0) := by
    have := aq_ci_of S4 (p := 6) (i := (0, [(4, 1)])) (e := (0, [(6, 1)])) (by decide)
    rw [show ae_ev ρ (0, [(4, 1)]) = r0 4 by show (0 : Int) + (1 * ρ 4 + 0) = r0 4; omega] at this
    exact this
  have k7j : aq_cj L xs (am_mX2 ap_b false h1 h2) 7 (r0 4).toNat = (0 : Int) + (1 * ρ 7 + 0) := by
    have := aq_cj_of S4 (p := 7) (i := (0, [(4, 1)])) (e := (0, [(7, 1)])) (by decide)
    rw [show ae_ev ρ (0, [(4, 1)]) = r0 4 by show (0 : Int) + (1 * ρ 4 + 0) = r0 4; omega] at this
    exact this
  have ct : aq_ci L xs (am_mX2 ap_b false h1 h2) 3 4 = (1 : Int) + (1 * ρ 1 + 0) := by
    have := aq_ci_of S4 (p := 3) (i := (4, [])) (e := (1, [(1, 1)])) (by decide)
    exact this
  have cn : aq_ci L xs (am_mX2 ap_b false h1 h2) 3 6 = (0 : Int) + (1 * ρ 2 + 0) := by
    have := aq_ci_of S4 (p := 3) (i := (6, [])) (e := (0, [(2, 1)])) (by decide)
    exact this
  have rn : aq_ci L xs (am_mX2 ap_b false h1 h2) 219 9 = (0 : Int) + (1 * ρ 2 + 0) := by
    have := aq_ci_of S4 (p := 219) (i := (9, [])) (e := (0, [(2, 1)])) (by decide)
    exact this
  have rnb : aq_ci L xs (am_mX2 ap_b false h1 h2) 219 17 = (0 : Int) + (1 * ρ 8 + 0) := by
    have := aq_ci_of S4 (p := 219) (i := (17, [])) (e := (0, [(8, 1)])) (by decide)
    exact this
  have k5 : aq_ci L xs (am_mX2 ap_b false h1 h2) 5 (r0 1).toNat = (3 : Int) + 0 := by
    have := aq_ci_of S4 (p := 5) (i := (0, [(1, 1)])) (e := (3, [])) (by decide)
    rw [show ae_ev ρ (0, [(1, 1)]) = r0 1 by show (0 : Int) + (1 * ρ 1 + 0) = r0 1; omega] at this
    exact this
  have k6 : aq_ci L xs (am_mX2 ap_b false h1 h2) 6 (r0 1).toNat = (0 : Int) + (1 * ρ 9 + 0) := by
    have := aq_ci_of S4 (p := 6) (i := (0, [(1, 1)])) (e := (0, [(9, 1)])) (by decide)
    rw [show ae_ev ρ (0, [(1, 1)]) = r0 1 by show (0 : Int) + (1 * ρ 1 + 0) = r0 1; omega] at this
    exact this
  have k7 : aq_cj L xs (am_mX2 ap_b false h1 h2) 7 (r0 1).toNat = (0 : Int) + (1 * ρ 8 + 0) := by
    have := aq_cj_of S4 (p := 7) (i := (0, [(1, 1)])) (e := (0, [(8, 1)])) (by decide)
    rw [show ae_ev ρ (0, [(1, 1)]) = r0 1 by show (0 : Int) + (1 * ρ 1 + 0) = r0 1; omega] at this
    exact this
  have ra : aq_ci L xs (am_mX2 ap_b false h1 h2) 219 15 = (0 : Int) + (1 * ρ 9 + 0) := by
    have := aq_ci_of S4 (p := 219) (i := (15, [])) (e := (0, [(9, 1)])) (by decide)
    exact this
  have cp : aq_ci L xs (am_mX2 ap_b false h1 h2) 3 7 = (0 : Int) + (1 * ρ 10 + 0) := by
    have := aq_ci_of S4 (p := 3) (i := (7, [])) (e := (0, [(10, 1)])) (by decide)
    exact this
  have rb : aq_ci L xs (am_mX2 ap_b false h1 h2) 219 16 = (0 : Int) + (1 * ρ 10 + 0) := by
    have := aq_ci_of S4 (p := 219) (i := (16, [])) (e := (0, [(10, 1)])) (by decide)
    exact this
  have rk : aq_ci L xs (am_mX2 ap_b false h1 h2) 219 14 = (3 : Int) + 0 := by
    have := aq_ci_of S4 (p := 219) (i := (14, [])) (e := (3, [])) (by decide)
    exact this
  have bd1 := aq_bd S1 (s := 1) (lo := 0) (hi := 900) (by decide)
  have bd2 := aq_bd S1 (s := 2) (lo := 0) (hi := 900) (by decide)
  have bd3 := aq_bd S1 (s := 3) (lo := 0) (hi := 900) (by decide)
  have bd8 := aq_bd S1 (s := 8) (lo := 59) (hi := 62) (by decide)
  have bd9 := aq_bd S1 (s := 9) (lo := 0) (hi := 900) (by decide)
  have bd10 := aq_bd S1 (s := 10) (lo := 0) (hi := 900) (by decide)
  have f0 : (0 : Int) + (-1 * ρ 2 + (1 * ρ 3 + 0)) ≤ 0 := (S1.2.1 (0, [(2, (-1)), (3, 1)]) (by decide)).2
  have f1 : (1 : Int) + (-1 * ρ 1 + (1 * ρ 4 + 0)) ≤ 0 := (S1.2.1 (1, [(1, (-1)), (4, 1)]) (by decide)).2
  have f2 : (0 : Int) + (1 * ρ 3 + (-1 * ρ 9 + 0)) ≤ 0 := (S1.2.1 (0, [(3, 1), (9, (-1))]) (by decide)).2
  have f3 : (0 : Int) + (-1 * ρ 2 + (1 * ρ 10 + 0)) ≤ 0 := (S1.2.1 (0, [(2, (-1)), (10, 1)]) (by decide)).2
  have f4 : (1 : Int) + (1 * ρ 9 + (-1 * ρ 10 + 0)) ≤ 0 := (S1.2.1 (1, [(9, 1), (10, (-1))]) (by decide)).2
  have hx : x.toInt = (1 : Int) + 0 := hx
  have hk := aq_hk_sat hf S4 (by decide)
  refine ⟨some (.int x), h1, none, h2, rfl, rfl, ap_sm_rf, ap_sm_rf, ae_fr_rf _ _ _ _, ?_⟩
  refine ⟨⟨⟨rfl, x, rfl, by omega, by rw [k5, hx]; omega⟩, hk, S7, S8, by rw [ct]; omega, by rw [cn]; omega, by rw [rn]; omega, by rw [rb, cp], by rw [cp]; omega, by rw [cp]; omega, fun h => by rw [k5] at h; rw [cp]; omega, ?_⟩, by rw [k5j]; omega, by rw [k6j]; omega, by rw [k7j]; omega⟩
  unfold aq_tokh
  rw [k5, k6, k7, rk, ra, rnb]
  exact ⟨by omega, Or.inr (Or.inr (Or.inr (Or.inr (Or.inr (Or.inl ⟨rfl, rfl, rfl, by omega, by omega⟩)))))⟩
theorem aqj_fx_end (hf : ae_fok = true) : ap_ok aqj_W (aq_M L xs) L xs (fun v1 v2 e1 e2 => aq_Qc L xs (r0 1) (r0 2) (r0 3) v1 v2 e1 e2 ∧ aq_ci L xs (am_mX2 ap_b false e1 e2) 5 (r0 4).toNat = r0 5 ∧ aq_ci L xs (am_mX2 ap_b false e1 e2) 6 (r0 4).toNat = r0 6 ∧ aq_cj L xs (am_mX2 ap_b false e1 e2) 7 (r0 4).toNat = r0 7) r0 aqj_fx := by
  intro ρ g1 g2 h1 h2 S _ a
  obtain ⟨S1, S2, S3, S4, S5, S6, S7, S8, S9⟩ := S
  obtain ⟨x, rfl, hx, rfl⟩ := aq_done S5 S6
  have a1 : ρ 1 = r0 1 := a 1 (by show 1 < 8; decide)
  have a2 : ρ 2 = r0 2 := a 2 (by show 2 < 8; decide)
  have a3 : ρ 3 = r0 3 := a 3 (by show 3 < 8; decide)
  have a4 : ρ 4 = r0 4 := a 4 (by show 4 < 8; decide)
  have a5 : ρ 5 = r0 5 := a 5 (by show 5 < 8; decide)
  have a6 : ρ 6 = r0 6 := a 6 (by show 6 < 8; decide)
  have a7 : ρ 7 = r0 7 := a 7 (by show 7 < 8; decide)
  have k5j : aq_ci L xs (am_mX2 ap_b false h1 h2) 5 (r0 4).toNat = (0 : Int) + (1 * ρ 5 + 0) := by
    have := aq_ci_of S4 (p := 5) (i := (0, [(4, 1)])) (e := (0, [(5, 1)])) (by decide)
    rw [show ae_ev ρ (0, [(4, 1)]) = r0 4 by show (0 : Int) + (1 * ρ 4 + 0) = r0 4; omega] at this
    exact this
  have k6j : aq_ci L xs (am_mX2 ap_b false h1 h2) 6 (r0 4).toNat = (0 : Int) + (1 * ρ 6 + 0) := by
    have := aq_ci_of S4 (p := 6) (i := (0, [(4, 1)])) (e := (0, [(6, 1)])) (by decide)
    rw [show ae_ev ρ (0, [(4, 1)]) = r0 4 by show (0 : Int) + (1 * ρ 4 + 0) = r0 4; omega] at this
    exact this
  have k7j : aq_cj L xs (am_mX2 ap_b false h1 h2) 7 (r0 4).toNat = (0 : Int) + (1 * ρ 7 + 0) := by
    have := aq_cj_of S4 (p := 7) (i := (0, [(4, 1)])) (e := (0, [(7, 1)])) (by decide)
    rw [show ae_ev ρ (0, [(4, 1)]) = r0 4 by show (0 : Int) + (1 * ρ 4 + 0) = r0 4; omega] at this
    exact this
  have ct : aq_ci L xs (am_mX2 ap_b false h1 h2) 3 4 = (1 : Int) + (1 * ρ 1 + 0) := by
    have := aq_ci_of S4 (p := 3) (i := (4, [])) (e := (1, [(1, 1)])) (by decide)
    exact this
  have cn : aq_ci L xs (am_mX2 ap_b false h1 h2) 3 6 = (0 : Int) + (1 * ρ 2 + 0) := by
    have := aq_ci_of S4 (p := 3) (i := (6, [])) (e := (0, [(2, 1)])) (by decide)
    exact this
  have rn : aq_ci L xs (am_mX2 ap_b false h1 h2) 219 9 = (0 : Int) + (1 * ρ 2 + 0) := by
    have := aq_ci_of S4 (p := 219) (i := (9, [])) (e := (0, [(2, 1)])) (by decide)
    exact this
  have k5 : aq_ci L xs (am_mX2 ap_b false h1 h2) 5 (r0 1).toNat = (6 : Int) + 0 := by
    have := aq_ci_of S4 (p := 5) (i := (0, [(1, 1)])) (e := (6, [])) (by decide)
    rw [show ae_ev ρ (0, [(1, 1)]) = r0 1 by show (0 : Int) + (1 * ρ 1 + 0) = r0 1; omega] at this
    exact this
  have k6 : aq_ci L xs (am_mX2 ap_b false h1 h2) 6 (r0 1).toNat = (0 : Int) + (1 * ρ 9 + 0) := by
    have := aq_ci_of S4 (p := 6) (i := (0, [(1, 1)])) (e := (0, [(9, 1)])) (by decide)
    rw [show ae_ev ρ (0, [(1, 1)]) = r0 1 by show (0 : Int) + (1 * ρ 1 + 0) = r0 1; omega] at this
    exact this
  have k7 : aq_cj L xs (am_mX2 ap_b false h1 h2) 7 (r0 1).toNat = (0 : Int) + (1 * ρ 8 + 0) := by
    have := aq_cj_of S4 (p := 7) (i := (0, [(1, 1)])) (e := (0, [(8, 1)])) (by decide)
    rw [show ae_ev ρ (0, [(1, 1)]) = r0 1 by show (0 : Int) + (1 * ρ 1 + 0) = r0 1; omega] at this
    exact this
  have ra : aq_ci L xs (am_mX2 ap_b false h1 h2) 219 15 = (0 : Int) + (1 * ρ 9 + 0) := by
    have := aq_ci_of S4 (p := 219) (i := (15, [])) (e := (0, [(9, 1)])) (by decide)
    exact this
  have cp : aq_ci L xs (am_mX2 ap_b false h1 h2) 3 7 = (0 : Int) + (1 * ρ 10 + 0) := by
    have := aq_ci_of S4 (p := 3) (i := (7, [])) (e := (0, [(10, 1)])) (by decide)
    exact this
  have rb : aq_ci L xs (am_mX2 ap_b false h1 h2) 219 16 = (0 : Int) + (1 * ρ 10 + 0) := by
    have := aq_ci_of S4 (p := 219) (i := (16, [])) (e := (0, [(10, 1)])) (by decide)
    exact this
  have rk : aq_ci L xs (am_mX2 ap_b false h1 h2) 219 14 = (4 : Int) + 0 := by
    have := aq_ci_of S4 (p := 219) (i := (14, [])) (e := (4, [])) (by decide)
    exact this
  have bd1 := aq_bd S1 (s := 1) (lo := 0) (hi := 900) (by decide)
  have bd2 := aq_bd S1 (s := 2) (lo := 0) (hi := 900) (by decide)
  have bd3 := aq_bd S1 (s := 3) (lo := 0) (hi := 900) (by decide)
  have bd8 := aq_bd S1 (s := 8) (lo := (-9223372036854775808)) (hi := 9223372036854775807) (by decide)
  have bd9 := aq_bd S1 (s := 9) (lo := 0) (hi := 900) (by decide)
  have bd10 := aq_bd S1 (s := 10) (lo := 0) (hi := 900) (by decide)
  have f0 : (0 : Int) + (-1 * ρ 2 + (1 * ρ 3 + 0)) ≤ 0 := (S1.2.1 (0, [(2, (-1)), (3, 1)]) (by decide)).2
  have f1 : (1 : Int) + (-1 * ρ 1 + (1 * ρ 4 + 0)) ≤ 0 := (S1.2.1 (1, [(1, (-1)), (4, 1)]) (by decide)).2
  have f2 : (0 : Int) + (1 * ρ 3 + (-1 * ρ 9 + 0)) ≤ 0 := (S1.2.1 (0, [(3, 1), (9, (-1))]) (by decide)).2
  have f3 : (0 : Int) + (-1 * ρ 2 + (1 * ρ 10 + 0)) ≤ 0 := (S1.2.1 (0, [(2, (-1)), (10, 1)]) (by decide)).2
  have f4 : (1 : Int) + (1 * ρ 9 + (-1 * ρ 10 + 0)) ≤ 0 := (S1.2.1 (1, [(9, 1), (10, (-1))]) (by decide)).2
  have hx : x.toInt = (0 : Int) + 0 := hx
  have hk := aq_hk_sat hf S4 (by decide)
  refine ⟨some (.int x), h1, none, h2, rfl, rfl, ap_sm_rf, ap_sm_rf, ae_fr_rf _ _ _ _, ?_⟩
  refine ⟨⟨⟨rfl, x, rfl, by omega, by rw [k5, hx]; omega⟩, hk, S7, S8, by rw [ct]; omega, by rw [cn]; omega, by rw [rn]; omega, by rw [rb, cp], by rw [cp]; omega, by rw [cp]; omega, fun h => by rw [k5] at h; rw [cp]; omega, ?_⟩, by rw [k5j]; omega, by rw [k6j]; omega, by rw [k7j]; omega⟩
  unfold aq_tokh
  rw [k5, k6, k7, rk, ra]
  exact ⟨by omega, Or.inr (Or.inr (Or.inr (Or.inr (Or.inr (Or.inr ⟨rfl, rfl⟩)))))⟩
theorem aqj_fn_end (hf : ae_fok = true) : ap_ok aqj_W (aq_M L xs) L xs (fun v1 v2 e1 e2 => aq_Qc L xs (r0 1) (r0 2) (r0 3) v1 v2 e1 e2 ∧ aq_ci L xs (am_mX2 ap_b false e1 e2) 5 (r0 4).toNat = r0 5 ∧ aq_ci L xs (am_mX2 ap_b false e1 e2) 6 (r0 4).toNat = r0 6 ∧ aq_cj L xs (am_mX2 ap_b false e1 e2) 7 (r0 4).toNat = r0 7) r0 aqj_fn := by
  intro ρ g1 g2 h1 h2 S _ a
  obtain ⟨S1, S2, S3, S4, S5, S6, S7, S8, S9⟩ := S
  obtain ⟨x, rfl, hx, rfl⟩ := aq_done S5 S6
  have a1 : ρ 1 = r0 1 := a 1 (by show 1 < 8; decide)
  have a2 : ρ 2 = r0 2 := a 2 (by show 2 < 8; decide)
  have a3 : ρ 3 = r0 3 := a 3 (by show 3 < 8; decide)
  have a4 : ρ 4 = r0 4 := a 4 (by show 4 < 8; decide)
  have a5 : ρ 5 = r0 5 := a 5 (by show 5 < 8; decide)
  have a6 : ρ 6 = r0 6 := a 6 (by show 6 < 8; decide)
  have a7 : ρ 7 = r0 7 := a 7 (by show 7 < 8; decide)
  have k5j : aq_ci L xs (am_mX2 ap_b false h1 h2) 5 (r0 4).toNat = (0 : Int) + (1 * ρ 5 + 0) := by
    have := aq_ci_of S4 (p := 5) (i := (0, [(4, 1)])) (e := (0, [(5, 1)])) (by decide)
    rw [show ae_ev ρ (0, [(4, 1)]) = r0 4 by show (0 : Int) + (1 * ρ 4 + 0) = r0 4; omega] at this
    exact this
  have k6j : aq_ci L xs (am_mX2 ap_b false h1 h2) 6 (r0 4).toNat = (0 : Int) + (1 * ρ 6 + 0) := by
    have := aq_ci_of S4 (p := 6) (i := (0, [(4, 1)])) (e := (0, [(6, 1)])) (by decide)
    rw [show ae_ev ρ (0, [(4, 1)]) = r0 4 by show (0 : Int) + (1 * ρ 4 + 0) = r0 4; omega] at this
    exact this
  have k7j : aq_cj L xs (am_mX2 ap_b false h1 h2) 7 (r0 4).toNat = (0 : Int) + (1 * ρ 7 + 0) := by
    have := aq_cj_of S4 (p := 7) (i := (0, [(4, 1)])) (e := (0, [(7, 1)])) (by decide)
    rw [show ae_ev ρ (0, [(4, 1)]) = r0 4 by show (0 : Int) + (1 * ρ 4 + 0) = r0 4; omega] at this
    exact this
  have ct : aq_ci L xs (am_mX2 ap_b false h1 h2) 3 4 = (1 : Int) + (1 * ρ 1 + 0) := by
    have := aq_ci_of S4 (p := 3) (i := (4, [])) (e := (1, [(1, 1)])) (by decide)
    exact this
  have cn : aq_ci L xs (am_mX2 ap_b false h1 h2) 3 6 = (0 : Int) + (1 * ρ 2 + 0) := by
    have := aq_ci_of S4 (p := 3) (i := (6, [])) (e := (0, [(2, 1)])) (by decide)
    exact this
  have rn : aq_ci L xs (am_mX2 ap_b false h1 h2) 219 9 = (0 : Int) + (1 * ρ 2 + 0) := by
    have := aq_ci_of S4 (p := 219) (i := (9, [])) (e := (0, [(2, 1)])) (by decide)
    exact this
  have rnb : aq_ci L xs (am_mX2 ap_b false h1 h2) 219 17 = (0 : Int) + (1 * ρ 8 + 0) := by
    have := aq_ci_of S4 (p := 219) (i := (17, [])) (e := (0, [(8, 1)])) (by decide)
    exact this
  have k5 : aq_ci L xs (am_mX2 ap_b false h1 h2) 5 (r0 1).toNat = (2 : Int) + 0 := by
    have := aq_ci_of S4 (p := 5) (i := (0, [(1, 1)])) (e := (2, [])) (by decide)
    rw [show ae_ev ρ (0, [(1, 1)]) = r0 1 by show (0 : Int) + (1 * ρ 1 + 0) = r0 1; omega] at this
    exact this
  have k6 : aq_ci L xs (am_mX2 ap_b false h1 h2) 6 (r0 1).toNat = (0 : Int) + (1 * ρ 9 + 0) := by
    have := aq_ci_of S4 (p := 6) (i := (0, [(1, 1)])) (e := (0, [(9, 1)])) (by decide)
    rw [show ae_ev ρ (0, [(1, 1)]) = r0 1 by show (0 : Int) + (1 * ρ 1 + 0) = r0 1; omega] at this
    exact this
  have k7 : aq_cj L xs (am_mX2 ap_b false h1 h2) 7 (r0 1).toNat = (0 : Int) + (1 * ρ 8 + 0) := by
    have := aq_cj_of S4 (p := 7) (i := (0, [(1, 1)])) (e := (0, [(8, 1)])) (by decide)
    rw [show ae_ev ρ (0, [(1, 1)]) = r0 1 by show (0 : Int) + (1 * ρ 1 + 0) = r0 1; omega] at this
    exact this
  have ra : aq_ci L xs (am_mX2 ap_b false h1 h2) 219 15 = (0 : Int) + (1 * ρ 9 + 0) := by
    have := aq_ci_of S4 (p := 219) (i := (15, [])) (e := (0, [(9, 1)])) (by decide)
    exact this
  have cp : aq_ci L xs (am_mX2 ap_b false h1 h2) 3 7 = (0 : Int) + (1 * ρ 10 + 0) := by
    have := aq_ci_of S4 (p := 3) (i := (7, [])) (e := (0, [(10, 1)])) (by decide)
    exact this
  have rb : aq_ci L xs (am_mX2 ap_b false h1 h2) 219 16 = (0 : Int) + (1 * ρ 10 + 0) := by
    have := aq_ci_of S4 (p := 219) (i := (16, [])) (e := (0, [(10, 1)])) (by decide)
    exact this
  have rk : aq_ci L xs (am_mX2 ap_b false h1 h2) 219 14 = (2 : Int) + 0 := by
    have := aq_ci_of S4 (p := 219) (i := (14, [])) (e := (2, [])) (by decide)
    exact this
  have bd1 := aq_bd S1 (s := 1) (lo := 0) (hi := 900) (by decide)
  have bd2 := aq_bd S1 (s := 2) (lo := 0) (hi := 900) (by decide)
  have bd3 := aq_bd S1 (s := 3) (lo := 0) (hi := 900) (by decide)
  have bd8 := aq_bd S1 (s := 8) (lo := 0) (hi := 9999) (by decide)
  have bd9 := aq_bd S1 (s := 9) (lo := 0) (hi := 900) (by decide)
  have bd10 := aq_bd S1 (s := 10) (lo := 0) (hi := 900) (by decide)
  have f0 : (0 : Int) + (-1 * ρ 2 + (1 * ρ 3 + 0)) ≤ 0 := (S1.2.1 (0, [(2, (-1)), (3, 1)]) (by decide)).2
  have f1 : (1 : Int) + (-1 * ρ 1 + (1 * ρ 4 + 0)) ≤ 0 := (S1.2.1 (1, [(1, (-1)), (4, 1)]) (by decide)).2
  have f2 : (0 : Int) + (1 * ρ 3 + (-1 * ρ 9 + 0)) ≤ 0 := (S1.2.1 (0, [(3, 1), (9, (-1))]) (by decide)).2
  have f3 : (0 : Int) + (-1 * ρ 2 + (1 * ρ 10 + 0)) ≤ 0 := (S1.2.1 (0, [(2, (-1)), (10, 1)]) (by decide)).2
  have f4 : (1 : Int) + (1 * ρ 9 + (-1 * ρ 10 + 0)) ≤ 0 := (S1.2.1 (1, [(9, 1), (10, (-1))]) (by decide)).2
  have hx : x.toInt = (1 : Int) + 0 := hx
  have hk := aq_hk_sat hf S4 (by decide)
  refine ⟨some (.int x), h1, none, h2, rfl, rfl, ap_sm_rf, ap_sm_rf, ae_fr_rf _ _ _ _, ?_⟩
  refine ⟨⟨⟨rfl, x, rfl, by omega, by rw [k5, hx]; omega⟩, hk, S7, S8, by rw [ct]; omega, by rw [cn]; omega, by rw [rn]; omega, by rw [rb, cp], by rw [cp]; omega, by rw [cp]; omega, fun h => by rw [k5] at h; rw [cp]; omega, ?_⟩, by rw [k5j]; omega, by rw [k6j]; omega, by rw [k7j]; omega⟩
  unfold aq_tokh
  rw [k5, k6, k7, rk, ra, rnb]
  exact ⟨by omega, Or.inr (Or.inr (Or.inr (Or.inr (Or.inl ⟨rfl, rfl, rfl, by omega, by omega⟩))))⟩
theorem aqj_fl_end (hf : ae_fok = true) : ap_ok aqj_W (aq_M L xs) L xs (fun v1 v2 e1 e2 => aq_Qc L xs (r0 1) (r0 2) (r0 3) v1 v2 e1 e2 ∧ aq_ci L xs (am_mX2 ap_b false e1 e2) 5 (r0 4).toNat = r0 5 ∧ aq_ci L xs (am_mX2 ap_b false e1 e2) 6 (r0 4).toNat = r0 6 ∧ aq_cj L xs (am_mX2 ap_b false e1 e2) 7 (r0 4).toNat = r0 7) r0 aqj_fl := by
  intro ρ g1 g2 h1 h2 S _ a
  obtain ⟨S1, S2, S3, S4, S5, S6, S7, S8, S9⟩ := S
  obtain ⟨x, rfl, hx, rfl⟩ := aq_done S5 S6
  have a1 : ρ 1 = r0 1 := a 1 (by show 1 < 8; decide)
  have a2 : ρ 2 = r0 2 := a 2 (by show 2 < 8; decide)
  have a3 : ρ 3 = r0 3 := a 3 (by show 3 < 8; decide)
  have a4 : ρ 4 = r0 4 := a 4 (by show 4 < 8; decide)
  have a5 : ρ 5 = r0 5 := a 5 (by show 5 < 8; decide)
  have a6 : ρ 6 = r0 6 := a 6 (by show 6 < 8; decide)
  have a7 : ρ 7 = r0 7 := a 7 (by show 7 < 8; decide)
  have k5j : aq_ci L xs (am_mX2 ap_b false h1 h2) 5 (r0 4).toNat = (0 : Int) + (1 * ρ 5 + 0) := by
    have := aq_ci_of S4 (p := 5) (i := (0, [(4, 1)])) (e := (0, [(5, 1)])) (by decide)
    rw [show ae_ev ρ (0, [(4, 1)]) = r0 4 by show (0 : Int) + (1 * ρ 4 + 0) = r0 4; omega] at this
    exact this
  have k6j : aq_ci L xs (am_mX2 ap_b false h1 h2) 6 (r0 4).toNat = (0 : Int) + (1 * ρ 6 + 0) := by
    have := aq_ci_of S4 (p := 6) (i := (0, [(4, 1)])) (e := (0, [(6, 1)])) (by decide)
    rw [show ae_ev ρ (0, [(4, 1)]) = r0 4 by show (0 : Int) + (1 * ρ 4 + 0) = r0 4; omega] at this
    exact this
  have k7j : aq_cj L xs (am_mX2 ap_b false h1 h2) 7 (r0 4).toNat = (0 : Int) + (1 * ρ 7 + 0) := by
    have := aq_cj_of S4 (p := 7) (i := (0, [(4, 1)])) (e := (0, [(7, 1)])) (by decide)
    rw [show ae_ev ρ (0, [(4, 1)]) = r0 4 by show (0 : Int) + (1 * ρ 4 + 0) = r0 4; omega] at this
    exact this
  have ct : aq_ci L xs (am_mX2 ap_b false h1 h2) 3 4 = (1 : Int) + (1 * ρ 1 + 0) := by
    have := aq_ci_of S4 (p := 3) (i := (4, [])) (e := (1, [(1, 1)])) (by decide)
    exact this
  have cn : aq_ci L xs (am_mX2 ap_b false h1 h2) 3 6 = (0 : Int) + (1 * ρ 2 + 0) := by
    have := aq_ci_of S4 (p := 3) (i := (6, [])) (e := (0, [(2, 1)])) (by decide)
    exact this
  have rn : aq_ci L xs (am_mX2 ap_b false h1 h2) 219 9 = (0 : Int) + (1 * ρ 2 + 0) := by
    have := aq_ci_of S4 (p := 219) (i := (9, [])) (e := (0, [(2, 1)])) (by decide)
    exact this
  have rw : aq_cj L xs (am_mX2 ap_b false h1 h2) 219 19 = (-1 : Int) + 0 := by
    have := aq_cj_of S4 (p := 219) (i := (19, [])) (e := ((-1), [])) (by decide)
    exact this
  have rl : aq_ci L xs (am_mX2 ap_b false h1 h2) 219 18 = (0 : Int) + (1 * ρ 8 + 0) := by
    have := aq_ci_of S4 (p := 219) (i := (18, [])) (e := (0, [(8, 1)])) (by decide)
    exact this
  have k5 : aq_ci L xs (am_mX2 ap_b false h1 h2) 5 (r0 1).toNat = (5 : Int) + 0 := by
    have := aq_ci_of S4 (p := 5) (i := (0, [(1, 1)])) (e := (5, [])) (by decide)
    rw [show ae_ev ρ (0, [(1, 1)]) = r0 1 by show (0 : Int) + (1 * ρ 1 + 0) = r0 1; omega] at this
    exact this
  have k6 : aq_ci L xs (am_mX2 ap_b false h1 h2) 6 (r0 1).toNat = (0 : Int) + (1 * ρ 9 + 0) := by
    have := aq_ci_of S4 (p := 6) (i := (0, [(1, 1)])) (e := (0, [(9, 1)])) (by decide)
    rw [show ae_ev ρ (0, [(1, 1)]) = r0 1 by show (0 : Int) + (1 * ρ 1 + 0) = r0 1; omega] at this
    exact this
  have k7 : aq_cj L xs (am_mX2 ap_b false h1 h2) 7 (r0 1).toNat = (0 : Int) + 0 := by
    have := aq_cj_of S4 (p := 7) (i := (0, [(1, 1)])) (e := (0, [])) (by decide)
    rw [show ae_ev ρ (0, [(1, 1)]) = r0 1 by show (0 : Int) + (1 * ρ 1 + 0) = r0 1; omega] at this
    exact this
  have ra : aq_ci L xs (am_mX2 ap_b false h1 h2) 219 15 = (0 : Int) + (1 * ρ 9 + 0) := by
    have := aq_ci_of S4 (p := 219) (i := (15, [])) (e := (0, [(9, 1)])) (by decide)
    exact this
  have cp : aq_ci L xs (am_mX2 ap_b false h1 h2) 3 7 = (0 : Int) + (1 * ρ 10 + 0) := by
    have := aq_ci_of S4 (p := 3) (i := (7, [])) (e := (0, [(10, 1)])) (by decide)
    exact this
  have rb : aq_ci L xs (am_mX2 ap_b false h1 h2) 219 16 = (0 : Int) + (1 * ρ 10 + 0) := by
    have := aq_ci_of S4 (p := 219) (i := (16, [])) (e := (0, [(10, 1)])) (by decide)
    exact this
  have rk : aq_ci L xs (am_mX2 ap_b false h1 h2) 219 14 = (1 : Int) + 0 := by
    have := aq_ci_of S4 (p := 219) (i := (14, [])) (e := (1, [])) (by decide)
    exact this
  have bd1 := aq_bd S1 (s := 1) (lo := 0) (hi := 900) (by decide)
  have bd2 := aq_bd S1 (s := 2) (lo := 0) (hi := 900) (by decide)
  have bd3 := aq_bd S1 (s := 3) (lo := 0) (hi := 900) (by decide)
  have bd8 := aq_bd S1 (s := 8) (lo := 9) (hi := 900) (by decide)
  have bd9 := aq_bd S1 (s := 9) (lo := 0) (hi := 900) (by decide)
  have bd10 := aq_bd S1 (s := 10) (lo := 0) (hi := 900) (by decide)
  have f0 : (0 : Int) + (-1 * ρ 2 + (1 * ρ 3 + 0)) ≤ 0 := (S1.2.1 (0, [(2, (-1)), (3, 1)]) (by decide)).2
  have f1 : (1 : Int) + (-1 * ρ 1 + (1 * ρ 4 + 0)) ≤ 0 := (S1.2.1 (1, [(1, (-1)), (4, 1)]) (by decide)).2
  have f2 : (0 : Int) + (1 * ρ 3 + (-1 * ρ 9 + 0)) ≤ 0 := (S1.2.1 (0, [(3, 1), (9, (-1))]) (by decide)).2
  have f3 : (0 : Int) + (-1 * ρ 2 + (1 * ρ 10 + 0)) ≤ 0 := (S1.2.1 (0, [(2, (-1)), (10, 1)]) (by decide)).2
  have f4 : (1 : Int) + (1 * ρ 9 + (-1 * ρ 10 + 0)) ≤ 0 := (S1.2.1 (1, [(9, 1), (10, (-1))]) (by decide)).2
  have hx : x.toInt = (1 : Int) + 0 := hx
  have hk := aq_hk_sat hf S4 (by decide)
  refine ⟨some (.int x), h1, none, h2, rfl, rfl, ap_sm_rf, ap_sm_rf, ae_fr_rf _ _ _ _, ?_⟩
  refine ⟨⟨⟨rfl, x, rfl, by omega, by rw [k5, hx]; omega⟩, hk, S7, S8, by rw [ct]; omega, by rw [cn]; omega, by rw [rn]; omega, by rw [rb, cp], by rw [cp]; omega, by rw [cp]; omega, fun h => by rw [k5] at h; rw [cp]; omega, ?_⟩, by rw [k5j]; omega, by rw [k6j]; omega, by rw [k7j]; omega⟩
  unfold aq_tokh
  rw [k5, k6, k7, rk, ra, rw, rl]
  exact ⟨by omega, Or.inr (Or.inr (Or.inr (Or.inl ⟨rfl, rfl, by omega, rfl⟩)))⟩
theorem aqj_fk_end (hf : ae_fok = true) : ap_ok aqj_W (aq_M L xs) L xs (fun v1 v2 e1 e2 => aq_Qc L xs (r0 1) (r0 2) (r0 3) v1 v2 e1 e2 ∧ aq_ci L xs (am_mX2 ap_b false e1 e2) 5 (r0 4).toNat = r0 5 ∧ aq_ci L xs (am_mX2 ap_b false e1 e2) 6 (r0 4).toNat = r0 6 ∧ aq_cj L xs (am_mX2 ap_b false e1 e2) 7 (r0 4).toNat = r0 7) r0 aqj_fk := by
  intro ρ g1 g2 h1 h2 S _ a
  obtain ⟨S1, S2, S3, S4, S5, S6, S7, S8, S9⟩ := S
  obtain ⟨x, rfl, hx, rfl⟩ := aq_done S5 S6
  have a1 : ρ 1 = r0 1 := a 1 (by show 1 < 8; decide)
  have a2 : ρ 2 = r0 2 := a 2 (by show 2 < 8; decide)
  have a3 : ρ 3 = r0 3 := a 3 (by show 3 < 8; decide)
  have a4 : ρ 4 = r0 4 := a 4 (by show 4 < 8; decide)
  have a5 : ρ 5 = r0 5 := a 5 (by show 5 < 8; decide)
  have a6 : ρ 6 = r0 6 := a 6 (by show 6 < 8; decide)
  have a7 : ρ 7 = r0 7 := a 7 (by show 7 < 8; decide)
  have k5j : aq_ci L xs (am_mX2 ap_b false h1 h2) 5 (r0 4).toNat = (0 : Int) + (1 * ρ 5 + 0) := by
    have := aq_ci_of S4 (p := 5) (i := (0, [(4, 1)])) (e := (0, [(5, 1)])) (by decide)
    rw [show ae_ev ρ (0, [(4, 1)]) = r0 4 by show (0 : Int) + (1 * ρ 4 + 0) = r0 4; omega] at this
    exact this
  have k6j : aq_ci L xs (am_mX2 ap_b false h1 h2) 6 (r0 4).toNat = (0 : Int) + (1 * ρ 6 + 0) := by
    have := aq_ci_of S4 (p := 6) (i := (0, [(4, 1)])) (e := (0, [(6, 1)])) (by decide)
    rw [show ae_ev ρ (0, [(4, 1)]) = r0 4 by show (0 : Int) + (1 * ρ 4 + 0) = r0 4; omega] at this
    exact this
  have k7j : aq_cj L xs (am_mX2 ap_b false h1 h2) 7 (r0 4).toNat = (0 : Int) + (1 * ρ 7 + 0) := by
    have := aq_cj_of S4 (p := 7) (i := (0, [(4, 1)])) (e := (0, [(7, 1)])) (by decide)
    rw [show ae_ev ρ (0, [(4, 1)]) = r0 4 by show (0 : Int) + (1 * ρ 4 + 0) = r0 4; omega] at this
    exact this
  have ct : aq_ci L xs (am_mX2 ap_b false h1 h2) 3 4 = (1 : Int) + (1 * ρ 1 + 0) := by
    have := aq_ci_of S4 (p := 3) (i := (4, [])) (e := (1, [(1, 1)])) (by decide)
    exact this
  have cn : aq_ci L xs (am_mX2 ap_b false h1 h2) 3 6 = (0 : Int) + (1 * ρ 2 + 0) := by
    have := aq_ci_of S4 (p := 3) (i := (6, [])) (e := (0, [(2, 1)])) (by decide)
    exact this
  have rn : aq_ci L xs (am_mX2 ap_b false h1 h2) 219 9 = (0 : Int) + (1 * ρ 2 + 0) := by
    have := aq_ci_of S4 (p := 219) (i := (9, [])) (e := (0, [(2, 1)])) (by decide)
    exact this
  have rw : aq_cj L xs (am_mX2 ap_b false h1 h2) 219 19 = (0 : Int) + (1 * ρ 9 + 0) := by
    have := aq_cj_of S4 (p := 219) (i := (19, [])) (e := (0, [(9, 1)])) (by decide)
    exact this
  have rl : aq_ci L xs (am_mX2 ap_b false h1 h2) 219 18 = (0 : Int) + (1 * ρ 10 + 0) := by
    have := aq_ci_of S4 (p := 219) (i := (18, [])) (e := (0, [(10, 1)])) (by decide)
    exact this
  have k5 : aq_ci L xs (am_mX2 ap_b false h1 h2) 5 (r0 1).toNat = (1 : Int) + 0 := by
    have := aq_ci_of S4 (p := 5) (i := (0, [(1, 1)])) (e := (1, [])) (by decide)
    rw [show ae_ev ρ (0, [(1, 1)]) = r0 1 by show (0 : Int) + (1 * ρ 1 + 0) = r0 1; omega] at this
    exact this
  have k6 : aq_ci L xs (am_mX2 ap_b false h1 h2) 6 (r0 1).toNat = (0 : Int) + (1 * ρ 11 + 0) := by
    have := aq_ci_of S4 (p := 6) (i := (0, [(1, 1)])) (e := (0, [(11, 1)])) (by decide)
    rw [show ae_ev ρ (0, [(1, 1)]) = r0 1 by show (0 : Int) + (1 * ρ 1 + 0) = r0 1; omega] at this
    exact this
  have k7 : aq_cj L xs (am_mX2 ap_b false h1 h2) 7 (r0 1).toNat = (0 : Int) + (1 * ρ 8 + 0) := by
    have := aq_cj_of S4 (p := 7) (i := (0, [(1, 1)])) (e := (0, [(8, 1)])) (by decide)
    rw [show ae_ev ρ (0, [(1, 1)]) = r0 1 by show (0 : Int) + (1 * ρ 1 + 0) = r0 1; omega] at this
    exact this
  have ra : aq_ci L xs (am_mX2 ap_b false h1 h2) 219 15 = (0 : Int) + (1 * ρ 11 + 0) := by
    have := aq_ci_of S4 (p := 219) (i := (15, [])) (e := (0, [(11, 1)])) (by decide)
    exact this
  have cp : aq_ci L xs (am_mX2 ap_b false h1 h2) 3 7 = (0 : Int) + (1 * ρ 12 + 0) := by
    have := aq_ci_of S4 (p := 3) (i := (7, [])) (e := (0, [(12, 1)])) (by decide)
    exact this
  have rb : aq_ci L xs (am_mX2 ap_b false h1 h2) 219 16 = (0 : Int) + (1 * ρ 12 + 0) := by
    have := aq_ci_of S4 (p := 219) (i := (16, [])) (e := (0, [(12, 1)])) (by decide)
    exact this
  have rk : aq_ci L xs (am_mX2 ap_b false h1 h2) 219 14 = (1 : Int) + 0 := by
    have := aq_ci_of S4 (p := 219) (i := (14, [])) (e := (1, [])) (by decide)
    exact this
  have bd1 := aq_bd S1 (s := 1) (lo := 0) (hi := 900) (by decide)
  have bd2 := aq_bd S1 (s := 2) (lo := 0) (hi := 900) (by decide)
  have bd3 := aq_bd S1 (s := 3) (lo := 0) (hi := 900) (by decide)
  have bd8 := aq_bd S1 (s := 8) (lo := 0) (hi := 31) (by decide)
  have bd9 := aq_bd S1 (s := 9) (lo := (-9223372036854775808)) (hi := 9223372036854775807) (by decide)
  have bd10 := aq_bd S1 (s := 10) (lo := 1) (hi := 8) (by decide)
  have bd11 := aq_bd S1 (s := 11) (lo := 0) (hi := 900) (by decide)
  have bd12 := aq_bd S1 (s := 12) (lo := 0) (hi := 900) (by decide)
  have f0 : (0 : Int) + (-1 * ρ 2 + (1 * ρ 3 + 0)) ≤ 0 := (S1.2.1 (0, [(2, (-1)), (3, 1)]) (by decide)).2
  have f1 : (1 : Int) + (-1 * ρ 1 + (1 * ρ 4 + 0)) ≤ 0 := (S1.2.1 (1, [(1, (-1)), (4, 1)]) (by decide)).2
  have f2 : (0 : Int) + (1 * ρ 3 + (-1 * ρ 11 + 0)) ≤ 0 := (S1.2.1 (0, [(3, 1), (11, (-1))]) (by decide)).2
  have f3 : (0 : Int) + (-1 * ρ 2 + (1 * ρ 12 + 0)) ≤ 0 := (S1.2.1 (0, [(2, (-1)), (12, 1)]) (by decide)).2
  have f4 : (1 : Int) + (1 * ρ 11 + (-1 * ρ 12 + 0)) ≤ 0 := (S1.2.1 (1, [(11, 1), (12, (-1))]) (by decide)).2
  have hx : x.toInt = (1 : Int) + 0 := hx
  have hk := aq_hk_sat hf S4 (by decide)
  refine ⟨some (.int x), h1, none, h2, rfl, rfl, ap_sm_rf, ap_sm_rf, ae_fr_rf _ _ _ _, ?_⟩
  refine ⟨⟨⟨rfl, x, rfl, by omega, by rw [k5, hx]; omega⟩, hk, S7, S8, by rw [ct]; omega, by rw [cn]; omega, by rw [rn]; omega, by rw [rb, cp], by rw [cp]; omega, by rw [cp]; omega, fun h => by rw [k5] at h; rw [cp]; omega, ?_⟩, by rw [k5j]; omega, by rw [k6j]; omega, by rw [k7j]; omega⟩
  unfold aq_tokh
  rw [k5, k6, k7, rk, ra, rw, rl]
  refine ⟨by omega, Or.inr (Or.inl ⟨rfl, rfl, by omega, by omega, by omega, ?_⟩)⟩
  have cl : ∀ i : Nat, i < 32 → ρ 8 = (i : Int) → ρ 9 = aq_code (aq_kw.getD i []) := by
    intro i hi he
    have hc : ∀ i : Fin 32, (aqj_fk.st.cl.any fun c => match c with | [d1, d2, d3] => decide (d1 = (1 - (i.val : Int), [(8, 1)])) && decide (d2 = ((i.val : Int) + 1, [(8, -1)])) && decide (d3 = (-(aq_code (aq_kw.getD i.val [])), [(9, 1)])) | _ => false) = true ∧ (aqj_fk.st.cl.any fun c => match c with | [d1, d2, d3] => decide (d1 = (1 - (i.val : Int), [(8, 1)])) && decide (d2 = ((i.val : Int) + 1, [(8, -1)])) && decide (d3 = (aq_code (aq_kw.getD i.val []), [(9, -1)])) | _ => false) = true := by decide +kernel
    obtain ⟨c1, c2⟩ := hc ⟨i, hi⟩
    have use : ∀ {k : Int} {s : Int}, (aqj_fk.st.cl.any fun c => match c with | [d1, d2, d3] => decide (d1 = (1 - (i : Int), [(8, 1)])) && decide (d2 = ((i : Int) + 1, [(8, -1)])) && decide (d3 = (k, [(9, s)])) | _ => false) = true → k + (s * ρ 9 + 0) ≤ 0 := by
      intro k s hh
      obtain ⟨c, hc1, hc2⟩ := List.any_eq_true.mp hh
      split at hc2
      · rename_i d1 d2 d3
        rw [Bool.and_eq_true, Bool.and_eq_true] at hc2
        obtain ⟨-, e, he1, he2⟩ := S3 _ hc1
        simp only [List.mem_cons, List.not_mem_nil, or_false] at he1
        rcases he1 with rfl | rfl | rfl
        · rw [of_decide_eq_true hc2.1.1] at he2
          have he2 : (1 - (i : Int)) + (1 * ρ 8 + 0) ≤ 0 := he2
          omega
        · rw [of_decide_eq_true hc2.1.2] at he2
          have he2 : ((i : Int) + 1) + (-1 * ρ 8 + 0) ≤ 0 := he2
          omega
        · rw [of_decide_eq_true hc2.2] at he2
          exact he2
      · cases hc2
    have u1 := use c1
    have u2 := use c2
    have u1 : -(aq_code (aq_kw.getD i [])) + (1 * ρ 9 + 0) ≤ 0 := u1
    have u2 : aq_code (aq_kw.getD i []) + (-1 * ρ 9 + 0) ≤ 0 := u2
    omega
  have hw := cl (ρ 8).toNat (by omega) (by omega)
  have e1 : (0 : Int) + (1 * ρ 9 + 0) = ρ 9 := by omega
  have e2 : (0 : Int) + (1 * ρ 8 + 0) = ρ 8 := by omega
  rw [e1, e2]
  exact hw
theorem aqj_fm_end (hf : ae_fok = true) : ap_ok aqj_W (aq_M L xs) L xs (fun v1 v2 e1 e2 => aq_Qc L xs (r0 1) (r0 2) (r0 3) v1 v2 e1 e2 ∧ aq_ci L xs (am_mX2 ap_b false e1 e2) 5 (r0 4).toNat = r0 5 ∧ aq_ci L xs (am_mX2 ap_b false e1 e2) 6 (r0 4).toNat = r0 6 ∧ aq_cj L xs (am_mX2 ap_b false e1 e2) 7 (r0 4).toNat = r0 7) r0 aqj_fm := by
  intro ρ g1 g2 h1 h2 S _ a
  obtain ⟨S1, S2, S3, S4, S5, S6, S7, S8, S9⟩ := S
  obtain ⟨x, rfl, hx, rfl⟩ := aq_done S5 S6
  have a1 : ρ 1 = r0 1 := a 1 (by show 1 < 8; decide)
  have a2 : ρ 2 = r0 2 := a 2 (by show 2 < 8; decide)
  have a3 : ρ 3 = r0 3 := a 3 (by show 3 < 8; decide)
  have a4 : ρ 4 = r0 4 := a 4 (by show 4 < 8; decide)
  have a5 : ρ 5 = r0 5 := a 5 (by show 5 < 8; decide)
  have a6 : ρ 6 = r0 6 := a 6 (by show 6 < 8; decide)
  have a7 : ρ 7 = r0 7 := a 7 (by show 7 < 8; decide)
  have k5j : aq_ci L xs (am_mX2 ap_b false h1 h2) 5 (r0 4).toNat = (0 : Int) + (1 * ρ 5 + 0) := by
    have := aq_ci_of S4 (p := 5) (i := (0, [(4, 1)])) (e := (0, [(5, 1)])) (by decide)
    rw [show ae_ev ρ (0, [(4, 1)]) = r0 4 by show (0 : Int) + (1 * ρ 4 + 0) = r0 4; omega] at this
    exact this
  have k6j : aq_ci L xs (am_mX2 ap_b false h1 h2) 6 (r0 4).toNat = (0 : Int) + (1 * ρ 6 + 0) := by
    have := aq_ci_of S4 (p := 6) (i := (0, [(4, 1)])) (e := (0, [(6, 1)])) (by decide)
    rw [show ae_ev ρ (0, [(4, 1)]) = r0 4 by show (0 : Int) + (1 * ρ 4 + 0) = r0 4; omega] at this
    exact this
  have k7j : aq_cj L xs (am_mX2 ap_b false h1 h2) 7 (r0 4).toNat = (0 : Int) + (1 * ρ 7 + 0) := by
    have := aq_cj_of S4 (p := 7) (i := (0, [(4, 1)])) (e := (0, [(7, 1)])) (by decide)
    rw [show ae_ev ρ (0, [(4, 1)]) = r0 4 by show (0 : Int) + (1 * ρ 4 + 0) = r0 4; omega] at this
    exact this
  have ct : aq_ci L xs (am_mX2 ap_b false h1 h2) 3 4 = (1 : Int) + (1 * ρ 1 + 0) := by
    have := aq_ci_of S4 (p := 3) (i := (4, [])) (e := (1, [(1, 1)])) (by decide)
    exact this
  have cn : aq_ci L xs (am_mX2 ap_b false h1 h2) 3 6 = (0 : Int) + (1 * ρ 2 + 0) := by
    have := aq_ci_of S4 (p := 3) (i := (6, [])) (e := (0, [(2, 1)])) (by decide)
    exact this
  have rn : aq_ci L xs (am_mX2 ap_b false h1 h2) 219 9 = (0 : Int) + (1 * ρ 2 + 0) := by
    have := aq_ci_of S4 (p := 219) (i := (9, [])) (e := (0, [(2, 1)])) (by decide)
    exact this
  have rw : aq_cj L xs (am_mX2 ap_b false h1 h2) 219 19 = (0 : Int) + (1 * ρ 8 + 0) := by
    have := aq_cj_of S4 (p := 219) (i := (19, [])) (e := (0, [(8, 1)])) (by decide)
    exact this
  have rl : aq_ci L xs (am_mX2 ap_b false h1 h2) 219 18 = (0 : Int) + (1 * ρ 9 + 0) := by
    have := aq_ci_of S4 (p := 219) (i := (18, [])) (e := (0, [(9, 1)])) (by decide)
    exact this
  have k5 : aq_ci L xs (am_mX2 ap_b false h1 h2) 5 (r0 1).toNat = (4 : Int) + 0 := by
    have := aq_ci_of S4 (p := 5) (i := (0, [(1, 1)])) (e := (4, [])) (by decide)
    rw [show ae_ev ρ (0, [(1, 1)]) = r0 1 by show (0 : Int) + (1 * ρ 1 + 0) = r0 1; omega] at this
    exact this
  have k6 : aq_ci L xs (am_mX2 ap_b false h1 h2) 6 (r0 1).toNat = (0 : Int) + (1 * ρ 10 + 0) := by
    have := aq_ci_of S4 (p := 6) (i := (0, [(1, 1)])) (e := (0, [(10, 1)])) (by decide)
    rw [show ae_ev ρ (0, [(1, 1)]) = r0 1 by show (0 : Int) + (1 * ρ 1 + 0) = r0 1; omega] at this
    exact this
  have k7 : aq_cj L xs (am_mX2 ap_b false h1 h2) 7 (r0 1).toNat = (0 : Int) + (1 * ρ 8 + 0) := by
    have := aq_cj_of S4 (p := 7) (i := (0, [(1, 1)])) (e := (0, [(8, 1)])) (by decide)
    rw [show ae_ev ρ (0, [(1, 1)]) = r0 1 by show (0 : Int) + (1 * ρ 1 + 0) = r0 1; omega] at this
    exact this
  have ra : aq_ci L xs (am_mX2 ap_b false h1 h2) 219 15 = (0 : Int) + (1 * ρ 10 + 0) := by
    have := aq_ci_of S4 (p := 219) (i := (15, [])) (e := (0, [(10, 1)])) (by decide)
    exact this
  have cp : aq_ci L xs (am_mX2 ap_b false h1 h2) 3 7 = (0 : Int) + (1 * ρ 11 + 0) := by
    have := aq_ci_of S4 (p := 3) (i := (7, [])) (e := (0, [(11, 1)])) (by decide)
    exact this
  have rb : aq_ci L xs (am_mX2 ap_b false h1 h2) 219 16 = (0 : Int) + (1 * ρ 11 + 0) := by
    have := aq_ci_of S4 (p := 219) (i := (16, [])) (e := (0, [(11, 1)])) (by decide)
    exact this
  have rk : aq_ci L xs (am_mX2 ap_b false h1 h2) 219 14 = (1 : Int) + 0 := by
    have := aq_ci_of S4 (p := 219) (i := (14, [])) (e := (1, [])) (by decide)
    exact this
  have bd1 := aq_bd S1 (s := 1) (lo := 0) (hi := 900) (by decide)
  have bd2 := aq_bd S1 (s := 2) (lo := 0) (hi := 900) (by decide)
  have bd3 := aq_bd S1 (s := 3) (lo := 0) (hi := 900) (by decide)
  have bd8 := aq_bd S1 (s := 8) (lo := 1) (hi := 1099511627776) (by decide)
  have bd9 := aq_bd S1 (s := 9) (lo := 1) (hi := 8) (by decide)
  have bd10 := aq_bd S1 (s := 10) (lo := 0) (hi := 900) (by decide)
  have bd11 := aq_bd S1 (s := 11) (lo := 0) (hi := 900) (by decide)
  have f0 : (0 : Int) + (-1 * ρ 2 + (1 * ρ 3 + 0)) ≤ 0 := (S1.2.1 (0, [(2, (-1)), (3, 1)]) (by decide)).2
  have f1 : (1 : Int) + (-1 * ρ 1 + (1 * ρ 4 + 0)) ≤ 0 := (S1.2.1 (1, [(1, (-1)), (4, 1)]) (by decide)).2
  have f2 : (0 : Int) + (1 * ρ 3 + (-1 * ρ 10 + 0)) ≤ 0 := (S1.2.1 (0, [(3, 1), (10, (-1))]) (by decide)).2
  have f3 : (0 : Int) + (-1 * ρ 2 + (1 * ρ 11 + 0)) ≤ 0 := (S1.2.1 (0, [(2, (-1)), (11, 1)]) (by decide)).2
  have f4 : (1 : Int) + (1 * ρ 10 + (-1 * ρ 11 + 0)) ≤ 0 := (S1.2.1 (1, [(10, 1), (11, (-1))]) (by decide)).2
  have hx : x.toInt = (1 : Int) + 0 := hx
  have hk := aq_hk_sat hf S4 (by decide)
  refine ⟨some (.int x), h1, none, h2, rfl, rfl, ap_sm_rf, ap_sm_rf, ae_fr_rf _ _ _ _, ?_⟩
  refine ⟨⟨⟨rfl, x, rfl, by omega, by rw [k5, hx]; omega⟩, hk, S7, S8, by rw [ct]; omega, by rw [cn]; omega, by rw [rn]; omega, by rw [rb, cp], by rw [cp]; omega, by rw [cp]; omega, fun h => by rw [k5] at h; rw [cp]; omega, ?_⟩, by rw [k5j]; omega, by rw [k6j]; omega, by rw [k7j]; omega⟩
  unfold aq_tokh
  rw [k5, k6, k7, rk, ra, rw, rl]
  refine ⟨by omega, Or.inr (Or.inr (Or.inl ⟨rfl, rfl, by omega, by omega, rfl, by omega, by omega, ?_⟩))⟩
  intro w hw
  have hc : ∀ w ∈ aq_kw, (aqj_fm.st.cl.any fun c => match c with | [d1, d2] => decide (d1 = (1 - aq_code w, [(8, 1)])) && decide (d2 = (aq_code w + 1, [(8, -1)])) | _ => false) = true := by decide +kernel
  obtain ⟨c, hc1, hc2⟩ := List.any_eq_true.mp (hc w hw)
  split at hc2
  · rename_i d1 d2
    rw [Bool.and_eq_true] at hc2
    obtain ⟨-, e, he1, he2⟩ := S3 _ hc1
    simp only [List.mem_cons, List.not_mem_nil, or_false] at he1
    rcases he1 with rfl | rfl
    · rw [of_decide_eq_true hc2.1] at he2
      have he2 : (1 - aq_code w) + (1 * ρ 8 + 0) ≤ 0 := he2
      omega
    · rw [of_decide_eq_true hc2.2] at he2
      have he2 : (aq_code w + 1) + (-1 * ρ 8 + 0) ≤ 0 := he2
      omega
  · cases hc2
theorem aqj_all (hr : ae_rok = true) (hf : ae_fok = true) (hL : L ≤ 3072) : ap_ok aqj_W (aq_M L xs) L xs (fun v1 v2 e1 e2 => aq_Qc L xs (r0 1) (r0 2) (r0 3) v1 v2 e1 e2 ∧ aq_ci L xs (am_mX2 ap_b false e1 e2) 5 (r0 4).toNat = r0 5 ∧ aq_ci L xs (am_mX2 ap_b false e1 e2) 6 (r0 4).toNat = r0 6 ∧ aq_cj L xs (am_mX2 ap_b false e1 e2) 7 (r0 4).toNat = r0 7) r0 aqj_s0 := by
  have hG : ∀ h h', aq_M L xs h → ae_fr aqj_W.p.mo L xs h h' → aq_M L xs h' := by
    intro h h' g f j hj
    have e1 : ae_inm aqj_W.p.mo 223 j = false := by
      cases hb : ae_inm aqj_W.p.mo 223 j with
      | false => rfl
      | true =>
        obtain ⟨r, hr, h1⟩ := List.any_eq_true.mp hb
        simp only [Bool.and_eq_true] at h1
        have h2 : ∀ r ∈ aqj_mo, r.1 ≠ 223 := by decide
        exact absurd (Nat.eq_of_beq_eq_true h1.1.1) (h2 r hr)
    have e2 : ae_inm aqj_W.p.mo 4 j = false := by
      cases hb : ae_inm aqj_W.p.mo 4 j with
      | false => rfl
      | true =>
        obtain ⟨r, hr, h1⟩ := List.any_eq_true.mp hb
        simp only [Bool.and_eq_true] at h1
        have h2 : ∀ r ∈ aqj_mo, r.1 ≠ 4 := by decide
        exact absurd (Nat.eq_of_beq_eq_true h1.1.1) (h2 r hr)
    rw [f 223 j e1, f 4 j e2]
    exact g j hj
  refine ap_all hr hf hL (fun c h => absurd h List.not_mem_nil) hG (aq_hk_ok hr hf hL hG rfl) (fun t ht => ?_) _ List.mem_cons_self
  have ht : t ∈ aqj_tms := ht
  unfold aqj_tms at ht
  simp only [List.mem_cons, List.not_mem_nil, or_false] at ht
  rcases ht with rfl | rfl | rfl | rfl | rfl | rfl | rfl | rfl | rfl | rfl | rfl | rfl | rfl | rfl | rfl | rfl | rfl | rfl | rfl | rfl | rfl | rfl | rfl | rfl | rfl | rfl | rfl | rfl | rfl | rfl | rfl | rfl | rfl | rfl
  · exact Or.inl ⟨3000, false, true, aqj_s0_ok⟩
  · exact Or.inl ⟨3000, true, true, aqj_w_ok⟩
  · exact Or.inl ⟨3000, true, true, aqj_l0_ok⟩
  · exact Or.inl ⟨3000, true, true, aqj_l1_ok⟩
  · exact Or.inl ⟨3000, true, true, aqj_l2_ok⟩
  · exact Or.inl ⟨3000, true, true, aqj_l3_ok⟩
  · exact Or.inl ⟨3000, true, true, aqj_l4_ok⟩
  · exact Or.inl ⟨3000, true, true, aqj_l5_ok⟩
  · exact Or.inl ⟨3000, true, true, aqj_l6_ok⟩
  · exact Or.inl ⟨3000, true, true, aqj_l7_ok⟩
  · exact Or.inl ⟨3000, true, true, aqj_l8_ok⟩
  · exact Or.inl ⟨3000, true, true, aqj_l9_ok⟩
  · exact Or.inl ⟨3000, true, false, aqj_e1_ok⟩
  · exact Or.inl ⟨3000, true, false, aqj_e2_ok⟩
  · exact Or.inl ⟨3000, true, false, aqj_e3_ok⟩
  · exact Or.inl ⟨3000, true, false, aqj_e4_ok⟩
  · exact Or.inl ⟨3000, true, false, aqj_e5_ok⟩
  · exact Or.inl ⟨3000, true, false, aqj_e6_ok⟩
  · exact Or.inl ⟨3000, true, false, aqj_e7_ok⟩
  · exact Or.inl ⟨3000, true, false, aqj_e8_ok⟩
  · exact Or.inl ⟨3000, true, false, aqj_e9_ok⟩
  · exact Or.inl ⟨3000, true, true, aqj_d0_ok⟩
  · exact Or.inl ⟨3000, true, true, aqj_d1_ok⟩
  · exact Or.inl ⟨3000, true, true, aqj_d2_ok⟩
  · exact Or.inl ⟨3000, true, true, aqj_d3_ok⟩
  · exact Or.inl ⟨3000, true, true, aqj_d4_ok⟩
  · exact Or.inl ⟨3000, true, true, aqj_d5_ok⟩
  · exact Or.inr (aqj_fe_end hf)
  · exact Or.inr (aqj_fs_end hf)
  · exact Or.inr (aqj_fx_end hf)
  · exact Or.inr (aqj_fn_end hf)
  · exact Or.inr (aqj_fl_end hf)
  · exact Or.inr (aqj_fk_end hf)
  · exact Or.inr (aqj_fm_end hf)
end AQCaqj_

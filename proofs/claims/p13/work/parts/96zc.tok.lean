/-! A token of the class's beside the reference's -/
noncomputable def aq_ci (L : Nat) (xs : Nat → Int32) (h : List am_E) (p j : Nat) : Int := ae_iz (ae_cell L xs h p j)
noncomputable def aq_cj (L : Nat) (xs : Nat → Int32) (h : List am_E) (p j : Nat) : Int := match ae_cell L xs h p j with
  | some (.long x) => x.toInt
  | _ => 0
noncomputable def aq_tok (kd st vl tk wd nb lt at' : Int) : Prop := at' = st ∧ ((kd = 0 ∧ tk = 0) ∨ (kd = 1 ∧ tk = 1 ∧ lt ≤ 8 ∧ 0 ≤ vl ∧ vl < 32 ∧ wd = aq_code (aq_kw.getD vl.toNat [])) ∨ (kd = 4 ∧ tk = 1 ∧ 1 ≤ lt ∧ lt ≤ 8 ∧ wd = vl ∧ 1 ≤ vl ∧ vl ≤ 1099511627776 ∧ ∀ w ∈ aq_kw, vl ≠ aq_code w) ∨
  (kd = 5 ∧ tk = 1 ∧ 9 ≤ lt ∧ wd = -1) ∨ (kd = 2 ∧ tk = 2 ∧ nb = vl ∧ 0 ≤ vl ∧ vl ≤ 9999) ∨ (kd = 3 ∧ tk = 3 ∧ nb = vl ∧ 59 ≤ vl ∧ vl ≤ 62) ∨ (kd = 6 ∧ tk = 4))
noncomputable def aq_tokh (L : Nat) (xs : Nat → Int32) (h : List am_E) (kd st vl : Int) : Prop := aq_tok kd st vl (aq_ci L xs h 219 14) (aq_cj L xs h 219 19) (aq_ci L xs h 219 17) (aq_ci L xs h 219 18) (aq_ci L xs h 219 15)
/-- what has come of cutting a token and of looking at the next one -/
noncomputable def aq_Qc (L : Nat) (xs : Nat → Int32) (t n p : Int) (v1 v2 : Option Value) (e1 e2 : List am_E) : Prop :=
  (v2 = none ∧ ∃ r : Int32, v1 = some (.int r) ∧ (r.toInt = 0 ∨ r.toInt = 1) ∧ (r.toInt = 0 ↔ (aq_ci L xs (am_mX2 ap_b false e1 e2) 5 t.toNat = 0 ∨ aq_ci L xs (am_mX2 ap_b false e1 e2) 5 t.toNat = 6))) ∧ ae_hk true L xs (am_mX2 ap_b false e1 e2) ∧ ap_hx true L xs false e1 ∧ ap_hx true L xs true e2 ∧
  aq_ci L xs (am_mX2 ap_b false e1 e2) 3 4 = t + 1 ∧ aq_ci L xs (am_mX2 ap_b false e1 e2) 3 6 = n ∧ aq_ci L xs (am_mX2 ap_b false e1 e2) 219 9 = n ∧ aq_ci L xs (am_mX2 ap_b false e1 e2) 219 16 = aq_ci L xs (am_mX2 ap_b false e1 e2) 3 7 ∧
  0 ≤ aq_ci L xs (am_mX2 ap_b false e1 e2) 3 7 ∧ aq_ci L xs (am_mX2 ap_b false e1 e2) 3 7 ≤ n ∧ (aq_ci L xs (am_mX2 ap_b false e1 e2) 5 t.toNat ≠ 0 → p + 1 ≤ aq_ci L xs (am_mX2 ap_b false e1 e2) 3 7) ∧ aq_tokh L xs (am_mX2 ap_b false e1 e2) (aq_ci L xs (am_mX2 ap_b false e1 e2) 5 t.toNat) (aq_ci L xs (am_mX2 ap_b false e1 e2) 6 t.toNat) (aq_cj L xs (am_mX2 ap_b false e1 e2) 7 t.toNat)
theorem aq_ci_of {ex : Bool} {n : Nat} {ρ : Nat → Int} {L : Nat} {xs : Nat → Int32} {M : List ae_M} {h : List am_E} (H : ae_hp ex n ρ L xs M h) {p : Nat} {i e : ae_X} (hm : (p, i, ((0, 0, e) : ae_V), false) ∈ M) : aq_ci L xs h p (ae_ev ρ i).toNat = ae_ev ρ e := by
  obtain ⟨j, v, h1, h2, x, rfl, h3⟩ := H.2.1 _ hm
  have h1 : ae_ev ρ i = (j : Int) := h1.2
  have h2 : ae_cell L xs h p j = some (.int x) := h2
  have h3 : ae_ev ρ e = x.toInt := h3.2
  unfold aq_ci
  rw [h1, show ((j : Int)).toNat = j by omega, h2, h3]
  rfl
theorem aq_cj_of {ex : Bool} {n : Nat} {ρ : Nat → Int} {L : Nat} {xs : Nat → Int32} {M : List ae_M} {h : List am_E} (H : ae_hp ex n ρ L xs M h) {p : Nat} {i e : ae_X} (hm : (p, i, ((1, 0, e) : ae_V), false) ∈ M) : aq_cj L xs h p (ae_ev ρ i).toNat = ae_ev ρ e := by
  obtain ⟨j, v, h1, h2, x, rfl, h3⟩ := H.2.1 _ hm
  have h1 : ae_ev ρ i = (j : Int) := h1.2
  have h2 : ae_cell L xs h p j = some (.long x) := h2
  have h3 : ae_ev ρ e = x.toInt := h3.2
  unfold aq_cj
  rw [h1, show ((j : Int)).toNat = j by omega, h2, h3]
theorem aq_bd {ρ : Nat → Int} {k : ae_K} (h : ae_okK ρ k) {s : Nat} {lo hi : Int} (m : (s, lo, hi) ∈ k.2.1) : lo ≤ ρ s ∧ ρ s ≤ hi := (h.1 _ m).2
theorem aq_done {n : Nat} {ρ : Nat → Int} {e : ae_X} {g1 g2 : ap_cT} (T1 : ap_tt n ρ ([], some (0, 0, e)) g1) (T2 : ap_tt n ρ ([], none) g2) : ∃ x : Int32, g1 = ([], some (.int x)) ∧ x.toInt = ae_ev ρ e ∧ g2 = ([], none) := by
  obtain ⟨f1, v1⟩ := g1
  obtain ⟨f2, v2⟩ := g2
  cases f1 with
  | cons _ _ => exact absurd T1.1 id
  | nil =>
    cases f2 with
    | cons _ _ => exact absurd T2.1 id
    | nil =>
      obtain ⟨v, hv, x, hx, d⟩ := T1.2 rfl
      have T2b : v2 = none := T2.2 rfl
      have hv : v1 = some v := hv
      exact ⟨x, by rw [hv, hx], d.2.symm, by rw [T2b]⟩
theorem aq_hk_sat {ex : Bool} (hf : ae_fok = true) {n : Nat} {ρ : Nat → Int} {L : Nat} {xs : Nat → Int32} {M : List ae_M} {h : List am_E} (H : ae_hp ex n ρ L xs M h) (hM : ∀ m ∈ M, m.2.2.2 = false) : ae_hk ex L xs h := ae_hk_of (k := (n, [], [], [])) (ρ := ρ) hf (fun e => e) H (fun p j d => by
  obtain ⟨m, m1, m2, -, -⟩ := d
  rw [hM m m1] at m2
  cases m2)

/-! Methods of the reference that try and take back: the cells 224[0..108] are as they were -/
noncomputable def rs_k : ae_K := ae_new (ae_new ae_k00 0 108) (-2147483648) 2147483647
noncomputable def rs_z (args : List ae_Ag) : ae_K × List ae_V := (ae_ia args rs_k).getD (rs_k, [])
noncomputable def rs_s (D y : Nat) (args : List ae_Ag) (rk : ae_X) : ab_Tm := (((rs_z args).1, [(224, ae_sym 1, (0, 0, ae_sym 2), false)], [], [], [], ([], none), ([(D, y, 0, ae_ag2 0 (rs_z args).2, [])], none)), [], rk)
noncomputable def rs_Q (L : Nat) (xs : Nat → Int32) (J : Nat) (x : Int32) (_ _ : Option Value) (_ e2 : List am_E) : Prop := ae_cell L xs e2 224 J = some (.int x)
/-- the same contract with less written -/
noncomputable def rs_c (c : ae_Ct) (mo : ae_Mo) (D : Nat) : ae_Ct := (c.1, c.2.1, c.2.2.1, mo, c.2.2.2.2.1, c.2.2.2.2.2.1, false, D)
noncomputable def rs_mok (c : ae_Ct) (mo : ae_Mo) : Bool := c.2.2.2.1.all fun r => mo.any (fun q => Nat.beq q.1 r.1 && ae_le q.2.1 r.2.1 && ae_le r.2.2 q.2.2) || (Nat.beq r.1 224 && ae_le 0 r.2.1 && ae_le r.2.2 108)
section RSA
variable {L : Nat} {xs : Nat → Int32} {r0 : Nat → Int}
theorem rs_fin {W : ab_W} (hW : W.r = 3) {J : Nat} {x : Int32} (h1 : r0 1 = (J : Int)) (h2 : r0 2 = x.toInt) {t : ab_Tm} {k : ae_K} {M : List ae_M} {a : Option ae_V} (ht : t.st = (k, M, [], [], [], ([], none), ([], a))) (hM : (224, (0, [(1, 1)]), ((0, 0, (0, [(2, 1)])) : ae_V), false) ∈ M) : ab_ok W (fun _ => True) L xs (rs_Q L xs J x) r0 t := by
  intro ρ g1 g2 e1 e2 S _ sr
  rw [ht] at S
  obtain ⟨S1, S2, S4, S5, S6, S7, S8, -⟩ := S
  obtain ⟨f1, v1⟩ := g1
  obtain ⟨f2, v2⟩ := g2
  cases f1 with
  | cons _ _ => exact absurd S5.1 id
  | nil =>
    cases f2 with
    | cons _ _ => exact absurd S6.1 id
    | nil =>
      refine ⟨v1, e1, v2, e2, rfl, rfl, ap_sm_rf, ap_sm_rf, ae_fr_rf _ _ _ _, ?_⟩
      have S4 : ae_hp false k.1 ρ L xs M (am_mX2 ap_b false e1 e2) := S4
      obtain ⟨j, v, m1, m2, y, rfl, m3⟩ := S4.2.1 _ hM
      have m1 : (0 : Int) + (1 * ρ 1 + 0) = (j : Int) := m1.2
      have m3 : (0 : Int) + (1 * ρ 2 + 0) = y.toInt := m3.2
      rw [sr 1 (by rw [hW]; decide), h1] at m1
      rw [sr 2 (by rw [hW]; decide), h2] at m3
      obtain rfl : j = J := by omega
      have m2 : ae_cell L xs (am_mX2 ap_b false e1 e2) 224 j = some (.int y) := m2
      rw [ap_cx (s := false) S7.1.1 S8.1.1 rfl] at m2
      show ae_cell L xs e2 224 j = some (.int x)
      rw [m2, Int32.toInt_inj.mp (show y.toInt = x.toInt by omega)]
end RSA
theorem rs_main {c : ae_Ct} {W : ab_W} {D : Nat} {rk : ae_X} {mo : ae_Mo} (t1 : ae_CT c) (hcx : c.2.2.2.2.2.2.1 = false) (hz : (ae_ia c.2.1 rs_k).isSome = true) (hm : rs_mok c mo = true) (hD : Nat.ble c.2.2.2.2.2.2.2 D = true) (hW : W.r = 3)
    (hs : rs_s D c.1 c.2.1 rk ∈ W.tms) (hok : ∀ (L : Nat) (xs : Nat → Int32) (J : Nat) (x : Int32) (r0 : Nat → Int), L ≤ 3072 → r0 1 = (J : Int) → r0 2 = x.toInt → ∀ t ∈ W.tms, ab_ok W (fun _ => True) L xs (rs_Q L xs J x) r0 t) : ae_CT (rs_c c mo D) := by
  intro L xs vs h d hL hv hk hd
  have hd : D ≤ d := hd
  have hv : ae_avs c.2.1 vs := hv
  have hk : ae_hk false L xs h := hk
  obtain ⟨n, r, h', z1, z2, z3, z4, z5⟩ := t1 L xs vs h d hL hv (by rw [hcx]; exact hk) (Nat.le_trans (Nat.le_of_ble_eq_true hD) hd)
  rw [hcx] at z2
  refine ⟨n, r, h', z1, z2, fun p j hp => ?_, z4, z5⟩
  cases hin : ae_inm c.2.2.2.1 p j with
  | false => exact z3 p j hin
  | true =>
    -- only the cells that come back
    obtain ⟨q, hq, hq2⟩ := List.any_eq_true.mp hin
    have h5 := List.all_eq_true.mp hm q hq
    simp only [Bool.and_eq_true] at hq2
    obtain ⟨⟨e1, e2⟩, e3⟩ := hq2
    have e1 := Nat.eq_of_beq_eq_true e1
    have e2 := ae_le_iff.mp e2
    have e3 := ae_le_iff.mp e3
    rcases Bool.or_eq_true_iff.mp h5 with h5 | h5
    · obtain ⟨w, hw, h6⟩ := List.any_eq_true.mp h5
      simp only [Bool.and_eq_true] at h6
      obtain ⟨⟨a1, a2⟩, a3⟩ := h6
      have a1 := Nat.eq_of_beq_eq_true a1
      have a2 := ae_le_iff.mp a2
      have a3 := ae_le_iff.mp a3
      have hx : ae_inm mo p j = true := List.any_eq_true.mpr ⟨w, hw, by
        rw [a1, e1, Nat.beq_refl, ae_le_iff.mpr (show w.2.1 ≤ (j : Int) by omega), ae_le_iff.mpr (show (j : Int) ≤ w.2.2 by omega)]; rfl⟩
      have hp : ae_inm mo p j = false := hp
      rw [hx] at hp
      cases hp
    · simp only [Bool.and_eq_true] at h5
      obtain ⟨⟨a1, a2⟩, a3⟩ := h5
      have a1 := Nat.eq_of_beq_eq_true a1
      have a2 := ae_le_iff.mp a2
      have a3 := ae_le_iff.mp a3
      obtain rfl : p = 224 := by omega
      have hJ : j < 109 := by omega
      obtain ⟨x, x1, x2, x3, x4⟩ := rs_int (L := L) (xs := xs) hk (p := 224) (j := j) ⟨by decide, by decide, by show j < 1925; omega⟩ (by
        have : ∀ i : Fin 109, (ae_iv 224 i.val).1 = 0 := by decide +kernel
        exact this ⟨j, hJ⟩)
      have b1 := Int32.le_toInt x
      have b2 := Int32.toInt_lt x
      have K0 : ae_okK (fun s => if s = 0 then (L : Int) else if s = 1 then (j : Int) else x.toInt) rs_k := by
        refine ⟨fun b hb => ?_, fun f hf => absurd hf List.not_mem_nil, fun d hd => absurd hd List.not_mem_nil⟩
        have hb : b ∈ ([(2, -2147483648, 2147483647), (1, 0, 108), (0, 0, 3072)] : ae_B) := hb
        simp only [List.mem_cons, List.not_mem_nil, or_false] at hb
        rcases hb with rfl | rfl | rfl
        · exact ⟨(by decide : 2 < 3), by show (-2147483648 : Int) ≤ x.toInt; omega, by show x.toInt ≤ 2147483647; omega⟩
        · exact ⟨(by decide : 1 < 3), by show (0 : Int) ≤ (j : Int); omega, by show (j : Int) ≤ 108; omega⟩
        · exact ⟨(by decide : 0 < 3), by show (0 : Int) ≤ (L : Int); omega, by show (L : Int) ≤ 3072; omega⟩
      obtain ⟨z, hz'⟩ := Option.isSome_iff_exists.mp hz
      obtain ⟨ρ, u, sr⟩ := ae_ia_ok K0 hv hz'
      have ez : rs_z c.2.1 = z := by unfold rs_z; rw [hz']; rfl
      have n3 : 3 ≤ z.1.1 := u.1
      have p0 : ρ 0 = (L : Int) := u.2.1 0 (by show 0 < 3; decide)
      have p1 : ρ 1 = (j : Int) := u.2.1 1 (by show 1 < 3; decide)
      have p2 : ρ 2 = x.toInt := u.2.1 2 (by show 2 < 3; decide)
      have kk : ae_k0 ρ L z.1 := ⟨⟨by omega, by omega⟩, p0⟩
      have fin := hok L xs j x ρ hL p1 p2 _ hs ρ ([], none) ([(d, c.1, 0, lv_args 0 vs, [])], none) h h (by
        show ab_sat (fun _ => True) L xs ρ ((rs_z c.2.1).1, [(224, ae_sym 1, ((0, 0, ae_sym 2) : ae_V), false)], [], [], [], ([], none), ([(D, c.1, 0, ae_ag2 0 (rs_z c.2.1).2, [])], none)) _ _ h h
        rw [ez]
        refine ⟨u.2.2, kk, ?_, ⟨trivial, fun _ => rfl⟩, ⟨⟨⟨hd, rfl, rfl, ae_ag2_ok 0 sr, trivial⟩, trivial⟩, fun e => by cases e⟩, aq_hs_of false hk, aq_hs_of true hk, trivial, ⟨_, fun t ht => absurd ht List.not_mem_nil, ae_fr_rf _ _ _ _, fun m hm => absurd hm List.not_mem_nil⟩⟩
        rw [ac_self]
        refine ad_hp_new hk (fun m hm => ?_)
        rw [List.mem_singleton.mp hm]
        refine ⟨j, .int x, ⟨⟨(show 1 < z.1.1 by omega), trivial⟩, ?_⟩, x1, x, rfl, ⟨(show 2 < z.1.1 by omega), trivial⟩, ?_⟩
        · show (0 : Int) + (1 * ρ 1 + 0) = j; omega
        · show (0 : Int) + (1 * ρ 2 + 0) = x.toInt; omega) (by rw [hW]; show 3 ≤ (rs_z c.2.1).1.1; rw [ez]; exact n3) (fun _ _ => rfl)
      obtain ⟨v1, f1, v2, f2, q1, ⟨m, q2⟩, -, -, -, q6⟩ := fin
      have hdet := am_det z1 q2
      injection hdet with hd1 hd2
      subst hd2
      show ae_cell L xs h' 224 j = ae_cell L xs h 224 j
      rw [x1]
      exact q6
theorem ad_mnil {p : ae_Mc × List (Nat × Nat) → Prop} : ∀ m ∈ ([] : List (ae_Mc × List (Nat × Nat))), p m := fun _ h => absurd h List.not_mem_nil
theorem ad_mcons {p : ae_Mc × List (Nat × Nat) → Prop} {t : ae_Mc × List (Nat × Nat)} {l : List (ae_Mc × List (Nat × Nat))} (a : p t) (b : ∀ t ∈ l, p t) : ∀ u ∈ t :: l, p u := fun u h => by
  rcases List.mem_cons.mp h with rfl | h
  · exact a
  · exact b u h

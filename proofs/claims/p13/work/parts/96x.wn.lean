/-! Which word stands there: the loop of wordNumber as a function of the letters -/
noncomputable def aq_kwr (b : Int → Int) (f pl : Int) : List Nat → Int → Int → Bool → Int
  | [], _, _, _ => -1
  | c :: r, at', pw, s => bif Nat.beq c 32 then (bif s && decide (at' = pl) then pw else aq_kwr b f pl r f (pw + 1) true)
      else aq_kwr b f pl r (at' + 1) pw (s && decide (at' < pl) && decide (b at' = (c : Int)))
section AQW
variable {L : Nat} {xs : Nat → Int32} {h0 h1 h2 : List am_E}
/-- both heaps as they were -/
noncomputable def aq_G (L : Nat) (xs : Nat → Int32) (h0 h : List am_E) : Prop := ∀ p j, ae_cell L xs h p j = ae_cell L xs h0 p j
noncomputable def aq_cf (L : Nat) (xs : Nat → Int32) (h0 h1 h2 : List am_E) : Prop := ae_hk true L xs (am_mX2 ap_b false h1 h2) ∧ ap_hx true L xs false h1 ∧ ap_hx true L xs true h2 ∧ aq_G L xs h0 (am_mX2 ap_b false h1 h2)
theorem aq_in {ρ : Nat → Int} {z : ap_St} {g1 g2 : ap_cT} (C : aq_cf L xs h0 h1 h2) (hK : ae_okK ρ z.k) (hL : ae_k0 ρ L z.k) (hc : z.cl = []) (hm : ∀ m ∈ z.m, ae_eo z.k.1 ρ L xs h0 m) (t1 : ap_tt z.k.1 ρ z.t1 g1) (t2 : ap_tt z.k.1 ρ z.t2 g2) : ap_sat (aq_G L xs h0) L xs ρ z g1 g2 h1 h2 := by
  refine ⟨hK, hL, ?_, ?_, t1, t2, C.2.1, C.2.2.1, C.2.2.2⟩
  · rw [hc]; exact fun c h => absurd h List.not_mem_nil
  · have := ae_hp_add (A := z.m) (ae_hp_of (ρ := ρ) z.k.1 C.1) (fun m h => by
      obtain ⟨j, v, e1, e2, e3⟩ := hm m h
      exact ⟨j, v, e1, (C.2.2.2 _ _).trans e2, e3⟩)
    rwa [List.append_nil] at this
theorem aq_out (hf : ae_fok = true) {ρ : Nat → Int} {z : ap_St} {g1 g2 : ap_cT} (S : ap_sat (aq_G L xs h0) L xs ρ z g1 g2 h1 h2) (hm : ∀ m ∈ z.m, m.2.2.2 = false) : aq_cf L xs h0 h1 h2 := by
  obtain ⟨-, -, -, S4, -, -, S7, S8, S9⟩ := S
  refine ⟨ae_hk_of hf (fun e => e) S4 (fun p j d => ?_), S7, S8, S9⟩
  obtain ⟨m, m1, m2, -, -⟩ := d
  rw [hm m m1] at m2
  cases m2
theorem aq_G_fr {mo : ae_Mo} (e : mo = []) {h h' : List am_E} (q : aq_G L xs h0 h) (f : ae_fr mo L xs h h') : aq_G L xs h0 h' := by
  intro p j
  subst e
  exact (f p j rfl).trans (q p j)
/-- the locals of the loop -/
noncomputable def aq_lo (lw : am_L) (f a pw sm i : Int) : Prop := am_lk lw 0 = some (.ref 3) ∧ ∃ v1 v2 v3 v4 v5 : Int32, am_lk lw 1 = some (.int v1) ∧ am_lk lw 2 = some (.int v2) ∧ am_lk lw 3 = some (.int v3) ∧ am_lk lw 4 = some (.int v4) ∧ am_lk lw 5 = some (.int v5) ∧ v1.toInt = f ∧ v2.toInt = a ∧ v3.toInt = pw ∧ v4.toInt = sm ∧ v5.toInt = i
noncomputable def aq_lv (e1 e2 e3 e4 e5 : ae_X) : ae_L := [(0, (2, 3, (0, []))), (1, (0, 0, e1)), (2, (0, 0, e2)), (3, (0, 0, e3)), (4, (0, 0, e4)), (5, (0, 0, e5))]
theorem aq_lo_lr {n : Nat} {ρ : Nat → Int} {lw : am_L} {f a pw sm i : Int} {e1 e2 e3 e4 e5 : ae_X} (q : aq_lo lw f a pw sm i) (d1 : ae_dn n ρ e1 f) (d2 : ae_dn n ρ e2 a) (d3 : ae_dn n ρ e3 pw) (d4 : ae_dn n ρ e4 sm) (d5 : ae_dn n ρ e5 i) : ae_lr n ρ (aq_lv e1 e2 e3 e4 e5) lw := by
  obtain ⟨q0, v1, v2, v3, v4, v5, w1, w2, w3, w4, w5, rfl, rfl, rfl, rfl, rfl⟩ := q
  intro p hp
  unfold aq_lv at hp
  simp only [List.mem_cons, List.not_mem_nil, or_false] at hp
  rcases hp with rfl | rfl | rfl | rfl | rfl | rfl
  · exact ⟨_, q0, rfl⟩
  · exact ⟨_, w1, v1, rfl, d1⟩
  · exact ⟨_, w2, v2, rfl, d2⟩
  · exact ⟨_, w3, v3, rfl, d3⟩
  · exact ⟨_, w4, v4, rfl, d4⟩
  · exact ⟨_, w5, v5, rfl, d5⟩
theorem aq_lr_lo {n : Nat} {ρ : Nat → Int} {lw : am_L} {e1 e2 e3 e4 e5 : ae_X} (q : ae_lr n ρ (aq_lv e1 e2 e3 e4 e5) lw) : aq_lo lw (ae_ev ρ e1) (ae_ev ρ e2) (ae_ev ρ e3) (ae_ev ρ e4) (ae_ev ρ e5) := by
  obtain ⟨v, h0, g0⟩ := q (0, (2, 3, (0, []))) (by unfold aq_lv; simp)
  obtain ⟨u1, h1, x1, rfl, g1⟩ := q (1, (0, 0, e1)) (by unfold aq_lv; simp)
  obtain ⟨u2, h2, x2, rfl, g2⟩ := q (2, (0, 0, e2)) (by unfold aq_lv; simp)
  obtain ⟨u3, h3, x3, rfl, g3⟩ := q (3, (0, 0, e3)) (by unfold aq_lv; simp)
  obtain ⟨u4, h4, x4, rfl, g4⟩ := q (4, (0, 0, e4)) (by unfold aq_lv; simp)
  obtain ⟨u5, h5, x5, rfl, g5⟩ := q (5, (0, 0, e5)) (by unfold aq_lv; simp)
  have g0 : v = .ref 3 := g0
  rw [g0] at h0
  exact ⟨h0, x1, x2, x3, x4, x5, h1, h2, h3, h4, h5, g1.2.symm, g2.2.symm, g3.2.symm, g4.2.symm, g5.2.symm⟩
end AQW

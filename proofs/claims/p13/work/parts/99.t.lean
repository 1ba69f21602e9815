/-! What is known at the law's loop -/
section LWT
variable {L : Nat} {xs : Nat → Int32}
/-- blocks of days told: one within another ends no later; no four of them -/
noncomputable def lw_dN (s : Int) (c : Nat → Int) : Prop := ∀ q a : Nat, q < a → a < 30 → (a : Int) < s → (a : Int) < c q → c a ≤ c q
noncomputable def lw_dD (s : Int) (c : Nat → Int) : Prop := ∀ q1 q2 q3 q4 : Nat, q1 < q2 → q2 < q3 → q3 < q4 → q4 < 30 → (q4 : Int) < s → (q2 : Int) < c q1 → (q3 : Int) < c q2 → (q4 : Int) < c q3 → c q4 ≤ (q4 : Int) + 1
noncomputable def lw_pp : List (Nat × Nat) := [(34, 39), (149, 154), (181, 186), (213, 218)]
noncomputable def lw_dP (L : Nat) (xs : Nat → Int32) (h : List am_E) : Prop := ∀ b ∈ lw_pp, lw_dN (ab_cv L xs h b.1 5) (ab_cv L xs h b.2) ∧ lw_dD (ab_cv L xs h b.1 5) (ab_cv L xs h b.2)
noncomputable def lw_Pm (mo : ae_Mo) : Bool := lw_pp.all fun b => ab_np mo b.2 0 29 && ab_np mo b.1 5 5
theorem lw_dP_dn {h : List am_E} (q : lw_dP L xs h) : dn_P L xs h := q (34, 39) List.mem_cons_self
theorem lw_d_eq {s s' : Int} {c c' : Nat → Int} (es : s' = s) (e : ∀ j, j < 30 → c' j = c j) (H : lw_dN s c ∧ lw_dD s c) : lw_dN s' c' ∧ lw_dD s' c' := by
  subst es
  refine ⟨fun q a h1 h2 h3 h4 => ?_, fun q1 q2 q3 q4 h1 h2 h3 h4 h5 h6 h7 h8 => ?_⟩
  · rw [e q (by omega)] at h4 ⊢
    rw [e a h2]
    exact H.1 q a h1 h2 h3 h4
  · rw [e q1 (by omega)] at h6
    rw [e q2 (by omega)] at h7
    rw [e q3 (by omega)] at h8
    rw [e q4 h4]
    exact H.2 q1 q2 q3 q4 h1 h2 h3 h4 h5 h6 h7 h8
theorem lw_dP_fr {mo : ae_Mo} (q : lw_Pm mo = true) {h h' : List am_E} (H : lw_dP L xs h) (f : ae_fr mo L xs h h') : lw_dP L xs h' := by
  intro b hb
  have q2 := List.all_eq_true.mp q b hb
  rw [Bool.and_eq_true] at q2
  exact lw_d_eq (ab_cv_fr f (ab_np_ok (Nat.le_refl 5) (Nat.le_refl 5) q2.2)) (fun j hj => ab_cv_fr f (ab_np_ok (Nat.zero_le j) (by omega) q2.1)) (H b hb)
theorem lw_dP_eq {h h' : List am_E} (e : ∀ b ∈ lw_pp, ∀ p, p = b.1 ∨ p = b.2 → ∀ j, ae_cell L xs h' p j = ae_cell L xs h p j) (H : lw_dP L xs h) : lw_dP L xs h' := by
  intro b hb
  exact lw_d_eq (by unfold ab_cv; rw [e b hb _ (Or.inl rfl)]) (fun j _ => by unfold ab_cv; rw [e b hb _ (Or.inr rfl)]) (H b hb)
theorem lw_dP_mix {e1 e2 : List am_E} (k1 : ae_hk false L xs e1) (k2 : ae_hk false L xs e2) (H : lw_dP L xs e1) : lw_dP L xs (am_mX2 ap_b false e1 e2) :=
  lw_dP_eq (fun b hb p hp j => ap_c (s := false) k1.1.1 k2.1.1 (by
    have hb : b ∈ ([(34, 39), (149, 154), (181, 186), (213, 218)] : List (Nat × Nat)) := hb
    simp only [List.mem_cons, List.not_mem_nil, or_false] at hb
    rcases hb with rfl | rfl | rfl | rfl <;> rcases hp with rfl | rfl <;> rfl)) H
/-- what is known at the law's loop: the invariant, ties, the tape's size and bytes -/
noncomputable def lw_I (T : List ab_Ti) (L : Nat) (xs : Nat → Int32) (h : List am_E) : Prop := ae_hk false L xs h ∧ ab_RI T (ab_cv L xs h) ∧ aq_ci L xs h 219 8 = aq_ci L xs h 3 8 ∧ (∀ j, j < 900 → ae_cell L xs h 223 j = ae_cell L xs h 4 j) ∧ lw_dP L xs h
theorem lw_hk_eq {h h' : List am_E} (e : ∀ p j, ae_cell L xs h' p j = ae_cell L xs h p j) (s : ae_shp h') (k : ae_hk false L xs h) : ae_hk false L xs h' :=
  ⟨s, fun p j v hp hc => k.2.1 p j v hp (by rw [← e]; exact hc), fun f hf i hi => (k.2.2 f hf i hi).imp (fun q => ae_cl_eq (fun o _ => e _ _) q) id⟩
theorem lw_I_eq {T : List ab_Ti} {h h' : List am_E} (e : ∀ p j, ae_cell L xs h' p j = ae_cell L xs h p j) (s : ae_shp h') (q : lw_I T L xs h) : lw_I T L xs h' :=
  ⟨lw_hk_eq e s q.1, ab_RI_eq (fun p j => by unfold ab_cv; rw [e]) q.2.1, by unfold aq_ci; rw [e, e]; exact q.2.2.1, fun j hj => by rw [e, e]; exact q.2.2.2.1 j hj, lw_dP_eq (fun _ _ _ _ j => e _ j) q.2.2.2.2⟩
noncomputable def lw_k0 : ae_K := (0, [], [], [])
theorem lw_k0_ok : ae_okK (fun _ => 0) lw_k0 := ⟨fun _ h => absurd h List.not_mem_nil, fun _ h => absurd h List.not_mem_nil, fun _ h => absurd h List.not_mem_nil⟩
theorem lw_T_fr {T : List ab_Ti} {mo : ae_Mo} (q : ab_ric lw_k0 [] [] mo T T = true) {h h' : List am_E} (f : ae_fr mo L xs h h') (r : ab_RI T (ab_cv L xs h)) : ab_RI T (ab_cv L xs h') :=
  ab_ric_ok (ρ := fun _ => 0) (h0 := h) lw_k0_ok (fun _ h => absurd h List.not_mem_nil) r f (fun _ h => absurd h List.not_mem_nil) q
theorem lw_T_nw {T : List ab_Ti} {mo : ae_Mo} (q : (T.all (ab_nw mo)) = true) {h h' : List am_E} (f : ae_fr mo L xs h h') (r : ab_RI T (ab_cv L xs h)) : ab_RI T (ab_cv L xs h') :=
  fun t ht i hi => ab_nw_ok f hi (List.all_eq_true.mp q t ht) (r t ht i hi)
/-- ties that nobody has touched, and those that hold anew -/
theorem lw_T_mix {T TT : List ab_Ti} {mo : ae_Mo} (q : (TT.all fun t => ab_nw mo t || T.any (ab_qt t)) = true) {h h' : List am_E} (f : ae_fr mo L xs h h') (r : ab_RI TT (ab_cv L xs h)) (r' : ab_RI T (ab_cv L xs h')) : ab_RI TT (ab_cv L xs h') := fun t ht i hi => by
  rcases Bool.or_eq_true_iff.mp (List.all_eq_true.mp q t ht) with q | q
  · exact ab_nw_ok f hi q (r t ht i hi)
  · obtain ⟨u, hu, e⟩ := List.any_eq_true.mp q
    have e := ab_qt_ok _ _ e
    subst e
    exact r' _ hu i hi
theorem lw_sub {T TT : List ab_Ti} (q : (T.all fun t => TT.any (ab_qt t)) = true) {f : Nat → Nat → Int} (r : ab_RI TT f) : ab_RI T f := fun t ht => by
  obtain ⟨u, hu, e⟩ := List.any_eq_true.mp (List.all_eq_true.mp q t ht)
  have e := ab_qt_ok _ _ e
  subst e
  exact r _ hu
theorem lw_RI_app {A B : List ab_Ti} {f : Nat → Nat → Int} (a : ab_RI A f) (b : ab_RI B f) : ab_RI (A ++ B) f := fun t ht => (List.mem_append.mp ht).elim (a t) (b t)
theorem lw_RI_l {A B : List ab_Ti} {f : Nat → Nat → Int} (a : ab_RI (A ++ B) f) : ab_RI A f := fun t ht => a t (List.mem_append_left _ ht)
theorem lw_RI_r {A B : List ab_Ti} {f : Nat → Nat → Int} (a : ab_RI (A ++ B) f) : ab_RI B f := fun t ht => a t (List.mem_append_right _ ht)
theorem lw_inm_app {a b : ae_Mo} {p j : Nat} (q : ae_inm (a ++ b) p j = false) : ae_inm a p j = false ∧ ae_inm b p j = false := by
  have q : (a ++ b).any (fun r => Nat.beq r.1 p && ae_le r.2.1 (j : Int) && ae_le (j : Int) r.2.2) = false := q
  rw [List.any_append, Bool.or_eq_false_iff] at q
  exact q
end LWT

/-! Reading and writing cells -/
/-- the tables fit each other -/
noncomputable def ae_rok : Bool := (List.range (ae_np + 1)).all fun p => (List.range (ae_sh p).2.2).all fun j => !(Nat.beq (ae_iv p j).1 2) || ae_le (ae_iv p j).2.1 (ae_iv p j).2.2
noncomputable def ae_fok : Bool := ae_fam.all fun f => Nat.blt 0 f.2.2.1 && Nat.blt 0 f.1 && Nat.ble f.1 ae_np && (ae_of f.2.2.2.2.2).all fun o => (List.range f.2.2.2.1).all fun i => Nat.blt (f.2.1 + f.2.2.1 * i + o) (ae_sh f.1).2.2 && (bif f.2.2.2.2.1 then ae_ine f.1 (f.2.1 + f.2.2.1 * i + o) else !(ae_ine f.1 (f.2.1 + f.2.2.1 * i + o)))
theorem ae_cell_ex {L : Nat} {xs : Nat → Int32} {h : List am_E} (hs : ae_shp h) {p j : Nat} (hp : 0 < p) (hn : p ≤ ae_np) (hj : j < (ae_sh p).2.2) : ∃ v, ae_cell L xs h p j = some v := by
  cases p with
  | zero => exact absurd hp (Nat.lt_irrefl 0)
  | succ k =>
    obtain ⟨e, h1, h2⟩ := hs.2 k hn
    show ∃ v, (h[k]?.bind fun e => ae_ec e j) = some v
    rw [h1]
    cases e with
    | inr o =>
      have h3 : o.2.length = (ae_sh (k + 1)).2.2 := h2.2.2
      exact ⟨_, List.getElem?_eq_getElem (by omega)⟩
    | inl a =>
      have h3 : a.2.1 = (ae_sh (k + 1)).2.2 := h2.2.2.1
      refine ⟨ae_cv a.2.2 j, ?_⟩
      show (bif Nat.blt j a.2.1 then some (ae_cv a.2.2 j) else none) = _
      rw [Nat.blt_eq.mpr (by omega)]; rfl
/-- a step from k to k': symbols come, none goes -/
noncomputable def ae_up2 (ρ : Nat → Int) (k : ae_K) (ρ' : Nat → Int) (k' : ae_K) : Prop := k.1 ≤ k'.1 ∧ ae_ag k.1 ρ ρ' ∧ ae_okK ρ' k'
theorem ae_up2.tr {ρ σ τ : Nat → Int} {a b c : ae_K} (h : ae_up2 ρ a σ b) (g : ae_up2 σ b τ c) : ae_up2 ρ a τ c := ⟨Nat.le_trans h.1 g.1, ae_ag_tr h.1 h.2.1 g.2.1, g.2.2⟩
/-- what a cell of such an invariant holds, as a value: a number or a new symbol -/
noncomputable def ae_mk (k : ae_K) (i : ae_I) : Option (ae_K × ae_V) := match i.1 with
  | 0 => bif ae_ie i.2.1 i.2.2 then some (k, (0, 0, ae_num i.2.1)) else some (ae_new k i.2.1 i.2.2, (0, 0, ae_sym k.1))
  | 1 => bif ae_ie i.2.1 i.2.2 then some (k, (1, 0, ae_num i.2.1)) else some (ae_new k i.2.1 i.2.2, (1, 0, ae_sym k.1))
  | 2 => bif ae_ie i.2.1 i.2.2 then some (k, (2, i.2.1.toNat, ae_num 0)) else none
  | 3 => some (k, (3, 0, ae_num 0))
  | _ => none
theorem ae_mk_ok {ρ : Nat → Int} {k k' : ae_K} {a : ae_V} (h : ae_okK ρ k) {z i : ae_I} {v : Value} (hz : z.1 = i.1 ∧ z.2.1 ≤ i.2.1 ∧ i.2.2 ≤ z.2.2) (hi : i.1 = 2 → i.2.1 ≤ i.2.2) (hv : ae_io i v) (q : ae_mk k z = some (k', a)) : ∃ ρ', ae_up2 ρ k ρ' k' ∧ ae_ok k'.1 ρ' a v := by
  obtain ⟨z1, z2, z3⟩ := z
  obtain ⟨i1, i2, i3⟩ := i
  obtain ⟨h1, h2, h3⟩ := hz
  have h1 : z1 = i1 := h1
  have h2 : z2 ≤ i2 := h2
  have h3 : i3 ≤ z3 := h3
  subst h1
  unfold ae_mk at q
  unfold ae_io at hv
  match z1, hv, q, hi with
  | 0, hv, q, _ =>
    obtain ⟨x, g1, g2, g3⟩ := hv
    have g2 : i2 ≤ x.toInt := g2
    have g3 : x.toInt ≤ i3 := g3
    have q : (bif ae_ie z2 z3 then some (k, ((0, 0, ae_num z2) : ae_V)) else some (ae_new k z2 z3, (0, 0, ae_sym k.1))) = some (k', a) := q
    cases hb : ae_ie z2 z3 with
    | true =>
      rw [hb] at q
      cases q
      have := ae_ie_ok hb
      refine ⟨ρ, ⟨Nat.le_refl _, ae_ag_rf _ _, h⟩, x, g1, ?_⟩
      have : x.toInt = z2 := by omega
      rw [this]
      exact ae_num_dn z2
    | false =>
      rw [hb] at q
      cases q
      refine ⟨ae_up ρ k.1 x.toInt, ⟨Nat.le_succ _, ae_up_ag _ _ _, ae_new_ok h (by omega) (by omega)⟩, x, g1, ?_⟩
      have := ae_sym_dn (n := k.1 + 1) (ρ := ae_up ρ k.1 x.toInt) (s := k.1) (Nat.lt_succ_self _)
      rwa [ae_up_at] at this
  | 1, hv, q, _ =>
    obtain ⟨x, g1, g2, g3⟩ := hv
    have g2 : i2 ≤ x.toInt := g2
    have g3 : x.toInt ≤ i3 := g3
    have q : (bif ae_ie z2 z3 then some (k, ((1, 0, ae_num z2) : ae_V)) else some (ae_new k z2 z3, (1, 0, ae_sym k.1))) = some (k', a) := q
    cases hb : ae_ie z2 z3 with
    | true =>
      rw [hb] at q
      cases q
      have := ae_ie_ok hb
      refine ⟨ρ, ⟨Nat.le_refl _, ae_ag_rf _ _, h⟩, x, g1, ?_⟩
      have : x.toInt = z2 := by omega
      rw [this]
      exact ae_num_dn z2
    | false =>
      rw [hb] at q
      cases q
      refine ⟨ae_up ρ k.1 x.toInt, ⟨Nat.le_succ _, ae_up_ag _ _ _, ae_new_ok h (by omega) (by omega)⟩, x, g1, ?_⟩
      have := ae_sym_dn (n := k.1 + 1) (ρ := ae_up ρ k.1 x.toInt) (s := k.1) (Nat.lt_succ_self _)
      rwa [ae_up_at] at this
  | 2, hv, q, hi =>
    have q : (bif ae_ie z2 z3 then some (k, ((2, z2.toNat, ae_num 0) : ae_V)) else none) = some (k', a) := q
    cases hb : ae_ie z2 z3 with
    | true =>
      rw [hb] at q
      cases q
      have h4 := ae_ie_ok hb
      have h5 : i2 ≤ i3 := hi rfl
      have hv : v = .ref i2.toNat := hv
      refine ⟨ρ, ⟨Nat.le_refl _, ae_ag_rf _ _, h⟩, ?_⟩
      show v = .ref z2.toNat
      have : i2 = z2 := by omega
      rw [hv, this]
    | false => rw [hb] at q; cases q
  | 3, hv, q, _ =>
    cases q
    exact ⟨ρ, ⟨Nat.le_refl _, ae_ag_rf _ _, h⟩, hv⟩
  | n + 4, hv, _, _ => exact absurd hv id
noncomputable def ae_ld (ex : Bool) (k : ae_K) (M : List ae_M) (p : Nat) (e0 : ae_X) : Option (ae_K × List ae_M × ae_V) :=
  match ae_fd M p (ae_nr k e0) with
  | some m => some (k, M, m.2.2.1)
  | none => bif ae_nd k M p (ae_nr k e0) && (!ex || ae_nx k p (ae_nr k e0)) then
      (ae_hull k p (ae_nr k e0)).bind fun z => (ae_mk k z).bind fun q => some (q.1, (p, ae_nr k e0, q.2, false) :: M, q.2) else none
theorem ae_cell_i32 (x : Int32) : (-2147483648 : Int) ≤ x.toInt ∧ x.toInt ≤ 2147483647 := by
  have h1 := Int32.le_toInt x
  have h2 := Int32.toInt_lt x
  omega
theorem ae_iv_ref {p j : Nat} (h : (ae_iv p j).1 = 2) (hr : ae_rok = true) (hp : p ≤ ae_np) (hj : j < (ae_sh p).2.2) : (ae_iv p j).2.1 ≤ (ae_iv p j).2.2 := by
  have h1 := List.all_eq_true.mp hr p (List.mem_range.mpr (Nat.lt_succ_of_le hp))
  have h2 := List.all_eq_true.mp h1 j (List.mem_range.mpr hj)
  rw [Bool.or_eq_true] at h2
  rcases h2 with h2 | h2
  · rw [h] at h2; cases h2
  · exact ae_le_iff.mp h2
theorem ae_ld_ok (hr : ae_rok = true) {ex : Bool} {ρ : Nat → Int} {k k' : ae_K} {L : Nat} {xs : Nat → Int32} {M M' : List ae_M} {h : List am_E} {p j : Nat} {e0 : ae_X} {v : Value} {a : ae_V} (hK : ae_okK ρ k) (hH : ae_hp ex k.1 ρ L xs M h) (hd : ae_dn k.1 ρ e0 (j : Int)) (hc : ae_cell L xs h p j = some v) (hpj : 0 < p → p ≤ ae_np ∧ j < (ae_sh p).2.2) (q : ae_ld ex k M p e0 = some (k', M', a)) :
    ∃ ρ', ae_up2 ρ k ρ' k' ∧ ae_hp ex k'.1 ρ' L xs M' h ∧ ae_ok k'.1 ρ' a v := by
  have he := ae_nr_dn hK hd
  unfold ae_ld at q
  generalize ae_nr k e0 = e at he q
  split at q
  · rename_i m hm
    cases q
    obtain ⟨m1, m2, m3⟩ := ae_fd_ok hm
    obtain ⟨i, w, g1, g2, g3⟩ := hH.2.1 m m1
    have hi : i = j := by
      have h1 := g1.2
      rw [m3, he.2] at h1
      omega
    subst hi
    rw [m2, hc] at g2
    cases g2
    exact ⟨ρ, ⟨Nat.le_refl _, ae_ag_rf _ _, hK⟩, hH, g3⟩
  · cases hb : ae_nd k M p e && (!ex || ae_nx k p e) with
    | false => rw [hb] at q; cases q
    | true =>
      rw [hb] at q
      rw [Bool.and_eq_true] at hb
      obtain ⟨z, h1, q⟩ := Option.bind_eq_some_iff.mp q
      obtain ⟨⟨k1, a1⟩, h2, q⟩ := Option.bind_eq_some_iff.mp q
      cases q
      have hio : z.1 = (bif Nat.beq p 0 then ((0, -2147483648, 2147483647) : ae_I) else ae_iv p j).1 ∧ z.2.1 ≤ (bif Nat.beq p 0 then ((0, -2147483648, 2147483647) : ae_I) else ae_iv p j).2.1 ∧ (bif Nat.beq p 0 then ((0, -2147483648, 2147483647) : ae_I) else ae_iv p j).2.2 ≤ z.2.2 := by
        cases p with
        | zero => cases h1; exact ⟨rfl, Int.le_refl _, Int.le_refl _⟩
        | succ p => exact ae_hull_ok hK (Nat.succ_pos p) he.2 h1
      have hv : ae_io (bif Nat.beq p 0 then ((0, -2147483648, 2147483647) : ae_I) else ae_iv p j) v := by
        cases p with
        | zero =>
          have hc2 : (bif Nat.blt j L then some (Value.int (xs j)) else none) = some v := hc
          cases hl : Nat.blt j L with
          | false => rw [hl] at hc2; cases hc2
          | true =>
            rw [hl] at hc2
            cases hc2
            exact ⟨xs j, rfl, (ae_cell_i32 _).1, (ae_cell_i32 _).2⟩
        | succ p =>
          rcases hH.2.2.1 (p + 1) j v (Nat.succ_pos p) hc with g | g | g
          · exact g
          · exact absurd g (ae_nd_ok hK he.2 hb.1)
          · have h3 := hb.2
            rw [g.1] at h3
            have h4 := ae_nx_ok hK he.2 (p := p + 1) (by simpa using h3)
            rw [h4] at g
            exact absurd g.2 (by decide)
      have href : (bif Nat.beq p 0 then ((0, -2147483648, 2147483647) : ae_I) else ae_iv p j).1 = 2 → (bif Nat.beq p 0 then ((0, -2147483648, 2147483647) : ae_I) else ae_iv p j).2.1 ≤ (bif Nat.beq p 0 then ((0, -2147483648, 2147483647) : ae_I) else ae_iv p j).2.2 := by
        intro h3
        cases p with
        | zero => cases h3
        | succ p => exact ae_iv_ref h3 hr (hpj (Nat.succ_pos p)).1 (hpj (Nat.succ_pos p)).2
      obtain ⟨ρ', u, w⟩ := ae_mk_ok hK hio href hv h2
      have hH' := ae_hp_ext u.1 u.2.1 hH
      refine ⟨ρ', u, ⟨hH'.1, fun m hm => ?_, fun p' j' v' hp' hc' => ?_, fun f hf i hi => ?_⟩, w⟩
      · rcases List.mem_cons.mp hm with rfl | hm
        · exact ⟨j, v, ae_dn_ext u.1 u.2.1 he, hc, w⟩
        · exact hH'.2.1 m hm
      · rcases hH'.2.2.1 p' j' v' hp' hc' with g | ⟨m, g1, g2⟩ | g
        · exact Or.inl g
        · exact Or.inr (Or.inl ⟨m, List.mem_cons_of_mem _ g1, g2⟩)
        · exact Or.inr (Or.inr g)
      · rcases hH'.2.2.2 f hf i hi with g | ⟨o, ho, m, g1, g2⟩ | g
        · exact Or.inl g
        · exact Or.inr (Or.inl ⟨o, ho, m, List.mem_cons_of_mem _ g1, g2⟩)
        · exact Or.inr (Or.inr g)
/-! clauses -/
/-- an index that surely is at this place of a clause: where the clause begins -/
noncomputable def ae_ci (k : ae_K) (e : ae_X) (f : ae_Fm) (o : Nat) : Option ae_X :=
  bif Nat.beq (ae_gc e.2 % f.2.2.1) 0 && ae_ie ((e.1 - ((f.2.1 : Int) + (o : Int))) % (f.2.2.1 : Int)) 0 && ae_rg k e ((f.2.1 : Int) + (o : Int)) ((f.2.1 : Int) + (o : Int) + (f.2.2.1 : Int) * ((f.2.2.2.1 : Int) - 1)) then some (ae_pls e (-(o : Int))) else none
/-- an index that surely is not -/
noncomputable def ae_cn (k : ae_K) (e : ae_X) (f : ae_Fm) (o : Nat) : Bool :=
  ae_z k (ae_pls e (1 - ((f.2.1 : Int) + (o : Int)))) || ae_z k (ae_neg e ((f.2.1 : Int) + (o : Int) + (f.2.2.1 : Int) * ((f.2.2.2.1 : Int) - 1) + 1)) || (Nat.beq (ae_gc e.2 % f.2.2.1) 0 && !(ae_ie ((e.1 - ((f.2.1 : Int) + (o : Int))) % (f.2.2.1 : Int)) 0))
theorem ae_gc_dvd2 {s : Nat} {e : ae_X} (h : Nat.beq (ae_gc e.2 % s) 0 = true) (ρ : Nat → Int) : (s : Int) ∣ (ae_ev ρ e - e.1) := by
  have h1 : s ∣ ae_gc e.2 := Nat.dvd_of_mod_eq_zero (Nat.eq_of_beq_eq_true h)
  have h2 : ae_ev ρ e - e.1 = ae_et ρ e.2 := by unfold ae_ev; omega
  rw [h2]
  exact Int.dvd_trans (Int.natCast_dvd_natCast.mpr h1) (ae_gc_dvd ρ e.2)
theorem ae_ci_ok {ρ : Nat → Int} {k : ae_K} (h : ae_okK ρ k) {e b : ae_X} {f : ae_Fm} {o j : Nat} (hs : 0 < f.2.2.1) (he : ae_dn k.1 ρ e (j : Int)) (q : ae_ci k e f o = some b) : ∃ i, i < f.2.2.2.1 ∧ j = f.2.1 + f.2.2.1 * i + o ∧ ae_dn k.1 ρ b ((f.2.1 + f.2.2.1 * i : Nat) : Int) := by
  unfold ae_ci at q
  generalize hc : (Nat.beq (ae_gc e.2 % f.2.2.1) 0 && ae_ie ((e.1 - ((f.2.1 : Int) + (o : Int))) % (f.2.2.1 : Int)) 0 && ae_rg k e ((f.2.1 : Int) + (o : Int)) ((f.2.1 : Int) + (o : Int) + (f.2.2.1 : Int) * ((f.2.2.2.1 : Int) - 1))) = c at q
  cases c with
  | false => cases q
  | true =>
    cases q
    simp only [Bool.and_eq_true] at hc
    obtain ⟨⟨c1, c2⟩, c3⟩ := hc
    have h1 := ae_gc_dvd2 c1 ρ
    have h2 : (f.2.2.1 : Int) ∣ (e.1 - ((f.2.1 : Int) + (o : Int))) := Int.dvd_of_emod_eq_zero (ae_ie_ok c2)
    have h3 := ae_rg_ok h c3
    rw [he.2] at h1 h3
    have h4 : (f.2.2.1 : Int) ∣ ((j : Int) - ((f.2.1 : Int) + (o : Int))) := by
      have := Int.dvd_add h1 h2
      have e1 : (j : Int) - e.1 + (e.1 - ((f.2.1 : Int) + (o : Int))) = (j : Int) - ((f.2.1 : Int) + (o : Int)) := by omega
      rwa [e1] at this
    obtain ⟨c, hc⟩ := h4
    have hs' : (0 : Int) < (f.2.2.1 : Int) := by omega
    have hc0 : 0 ≤ c := by
      rcases Int.lt_or_le c 0 with h9 | h9
      · have h10 : (f.2.2.1 : Int) * c ≤ (f.2.2.1 : Int) * (-1) := Int.mul_le_mul_of_nonneg_left (by omega) (by omega)
        omega
      · exact h9
    obtain ⟨i, rfl⟩ := Int.eq_ofNat_of_zero_le hc0
    have h11 : ((f.2.2.1 * i : Nat) : Int) = (f.2.2.1 : Int) * (i : Int) := Int.natCast_mul _ i
    refine ⟨i, ?_, by omega, ?_⟩
    · rcases Nat.lt_or_ge i f.2.2.2.1 with h12 | h12
      · exact h12
      · have h13 : (f.2.2.1 : Int) * ((f.2.2.2.1 : Int)) ≤ (f.2.2.1 : Int) * (i : Int) := Int.mul_le_mul_of_nonneg_left (by omega) (by omega)
        rw [Int.mul_sub] at h3
        omega
    · have := ae_pls_dn he (-(o : Int))
      have e2 : (j : Int) + -(o : Int) = ((f.2.1 + f.2.2.1 * i : Nat) : Int) := by omega
      rwa [e2] at this
theorem ae_cn_ok {ρ : Nat → Int} {k : ae_K} (h : ae_okK ρ k) {e : ae_X} {f : ae_Fm} {o j : Nat} (he : ae_ev ρ e = (j : Int)) (q : ae_cn k e f o = true) : ∀ i, i < f.2.2.2.1 → j ≠ f.2.1 + f.2.2.1 * i + o := by
  intro i hi hj
  have h11 : ((f.2.2.1 * i : Nat) : Int) = (f.2.2.1 : Int) * (i : Int) := Int.natCast_mul _ i
  have h12 : (f.2.2.1 : Int) * (i : Int) ≤ (f.2.2.1 : Int) * ((f.2.2.2.1 : Int) - 1) := Int.mul_le_mul_of_nonneg_left (by omega) (by omega)
  unfold ae_cn at q
  simp only [Bool.or_eq_true, Bool.and_eq_true, Bool.not_eq_true'] at q
  rcases q with (q | q) | ⟨q1, q2⟩
  · have := ae_z_ok h q
    rw [ae_pls_ev, he] at this
    omega
  · have := ae_z_ok h q
    rw [ae_neg_ev, he] at this
    omega
  · have h1 := ae_gc_dvd2 q1 ρ
    rw [he] at h1
    have h2 : (f.2.2.1 : Int) ∣ ((j : Int) - ((f.2.1 : Int) + (o : Int))) := ⟨(i : Int), by omega⟩
    have h3 : (f.2.2.1 : Int) ∣ (e.1 - ((f.2.1 : Int) + (o : Int))) := by
      have := Int.dvd_sub h2 h1
      have e1 : (j : Int) - ((f.2.1 : Int) + (o : Int)) - ((j : Int) - e.1) = e.1 - ((f.2.1 : Int) + (o : Int)) := by omega
      rwa [e1] at this
    rw [Int.emod_eq_zero_of_dvd h3] at q2
    cases q2
/-- the value of a cell that is known; clean: not dirty -/
noncomputable def ae_vx (cl : Bool) (k : ae_K) (M : List ae_M) (p : Nat) (e0 : ae_X) : Option ae_X := (ae_fd M p (ae_nr k e0)).bind fun m => bif Nat.beq m.2.2.1.1 0 && (!cl || (!m.2.2.2 && ae_nd k M p (ae_nr k e0))) then some m.2.2.1.2.2 else none
noncomputable def ae_lx (cl : Bool) (k : ae_K) (M : List ae_M) (p : Nat) (b : ae_X) : List (Nat × Int) → Option ae_X
  | [] => some (ae_num 0)
  | t :: r => (ae_vx cl k M p (ae_pls b (t.1 : Int))).bind fun v => (ae_lx cl k M p b r).bind fun w => some (ae_add (ae_scl t.2 v) w)
noncomputable def ae_cx (cl : Bool) (k : ae_K) (M : List ae_M) (p : Nat) (b : ae_X) : List (Int × List (Nat × Int)) → Option (List ae_X)
  | [] => some []
  | l :: r => (ae_lx cl k M p b l.2).bind fun w => (ae_cx cl k M p b r).bind fun s => some (ae_pls w l.1 :: s)
section AEC
variable {ex : Bool} {ρ : Nat → Int} {k : ae_K} {L : Nat} {xs : Nat → Int32} {M : List ae_M} {h : List am_E}
theorem ae_vx_ok {cl : Bool} (hK : ae_okK ρ k) (hH : ae_hp ex k.1 ρ L xs M h) {p j : Nat} {e0 w : ae_X} (hd : ae_dn k.1 ρ e0 (j : Int)) (q : ae_vx cl k M p e0 = some w) : ae_dn k.1 ρ w (ae_iz (ae_cell L xs h p j)) ∧ (cl = true → ¬ ae_dy ρ M p j) := by
  have he := ae_nr_dn hK hd
  obtain ⟨m, h1, h2⟩ := Option.bind_eq_some_iff.mp q
  generalize hc : (Nat.beq m.2.2.1.1 0 && (!cl || (!m.2.2.2 && ae_nd k M p (ae_nr k e0)))) = c at h2
  cases c with
  | false => cases h2
  | true =>
    cases h2
    rw [Bool.and_eq_true] at hc
    obtain ⟨m1, m2, m3⟩ := ae_fd_ok h1
    obtain ⟨i, v, g1, g2, g3⟩ := hH.2.1 m m1
    have hi : i = j := by
      have h1 := g1.2
      rw [m3, he.2] at h1
      omega
    subst hi
    have ht := Nat.eq_of_beq_eq_true hc.1
    unfold ae_ok at g3
    rw [ht] at g3
    obtain ⟨x, g4, g5⟩ := g3
    rw [m2] at g2
    refine ⟨by rw [g2, g4]; exact g5, fun hcl => ?_⟩
    have h3 := hc.2
    rw [hcl] at h3
    simp only [Bool.not_true, Bool.false_or, Bool.and_eq_true] at h3
    exact ae_nd_ok hK he.2 h3.2
theorem ae_lx_ok {cl : Bool} (hK : ae_okK ρ k) (hH : ae_hp ex k.1 ρ L xs M h) {p b : Nat} {e : ae_X} (hd : ae_dn k.1 ρ e (b : Int)) : ∀ {l : List (Nat × Int)} {w : ae_X}, ae_lx cl k M p e l = some w → ae_dn k.1 ρ w (ae_ls L xs h p b l) ∧ (cl = true → ∀ t ∈ l, ¬ ae_dy ρ M p (b + t.1))
  | [], w, q => by
    cases q
    exact ⟨ae_num_dn 0, fun _ t ht => absurd ht List.not_mem_nil⟩
  | t :: r, w, q => by
    obtain ⟨v, h1, q⟩ := Option.bind_eq_some_iff.mp q
    obtain ⟨s, h2, q⟩ := Option.bind_eq_some_iff.mp q
    cases q
    have hd2 := ae_pls_dn hd (t.1 : Int)
    have e1 : (b : Int) + (t.1 : Int) = ((b + t.1 : Nat) : Int) := by omega
    rw [e1] at hd2
    obtain ⟨g1, g2⟩ := ae_vx_ok hK hH hd2 h1
    obtain ⟨g3, g4⟩ := ae_lx_ok hK hH hd h2
    refine ⟨ae_add_dn (ae_scl_dn g1 t.2) g3, fun hcl u hu => ?_⟩
    rcases List.mem_cons.mp hu with rfl | hu
    · exact g2 hcl
    · exact g4 hcl u hu
theorem ae_cx_ok {cl : Bool} (hK : ae_okK ρ k) (hH : ae_hp ex k.1 ρ L xs M h) {p b : Nat} {e : ae_X} (hd : ae_dn k.1 ρ e (b : Int)) : ∀ {ls : List (Int × List (Nat × Int))} {ws : List ae_X}, ae_cx cl k M p e ls = some ws → (∀ w ∈ ws, ae_wt k.1 w.2) ∧ (ae_cl L xs h p b ls → ∃ w ∈ ws, ae_ev ρ w ≤ 0) ∧ (cl = true → ∀ o ∈ ae_of ls, ¬ ae_dy ρ M p (b + o))
  | [], ws, q => by
    cases q
    refine ⟨fun w hw => absurd hw List.not_mem_nil, fun ⟨l, hl, _⟩ => absurd hl List.not_mem_nil, fun _ o ho => absurd ho List.not_mem_nil⟩
  | l :: r, ws, q => by
    obtain ⟨w, h1, q⟩ := Option.bind_eq_some_iff.mp q
    obtain ⟨s, h2, q⟩ := Option.bind_eq_some_iff.mp q
    cases q
    obtain ⟨g1, g2⟩ := ae_lx_ok hK hH hd h1
    obtain ⟨i1, i2, i3⟩ := ae_cx_ok hK hH hd h2
    have g3 := ae_pls_dn g1 l.1
    refine ⟨fun v hv => ?_, fun hcl => ?_, fun hcl o ho => ?_⟩
    · rcases List.mem_cons.mp hv with rfl | hv
      · exact g3.1
      · exact i1 v hv
    · obtain ⟨l', hl', h3⟩ := hcl
      rcases List.mem_cons.mp hl' with rfl | hl'
      · exact ⟨_, List.mem_cons_self, by rw [g3.2]; omega⟩
      · obtain ⟨v, hv, h4⟩ := i2 ⟨l', hl', h3⟩
        exact ⟨v, List.mem_cons_of_mem _ hv, h4⟩
    · have ho : o ∈ (l.2.map fun t => t.1) ++ ae_of r := by
        have : ae_of (l :: r) = (l.2.map fun t => t.1) ++ ae_of r := List.flatMap_cons ..
        rwa [this] at ho
      rcases List.mem_append.mp ho with ho | ho
      · obtain ⟨t, ht, rfl⟩ := List.mem_map.mp ho
        exact g2 hcl t ht
      · exact i3 hcl o ho
/-- some of these is no greater than 0 -/
noncomputable def ae_fk (k : ae_K) : List ae_X → List ae_K
  | [] => []
  | x :: r => ae_as k x ++ (ae_as k (ae_neg x 1)).flatMap fun k' => ae_fk k' r
theorem ae_fk_ok : ∀ {ws : List ae_X} {k : ae_K}, ae_okK ρ k → (∀ w ∈ ws, ae_wt k.1 w.2) → (∃ w ∈ ws, ae_ev ρ w ≤ 0) → ∃ k' ∈ ae_fk k ws, ae_okK ρ k' ∧ k'.1 = k.1
  | [], _, _, _, h => by obtain ⟨w, hw, _⟩ := h; exact absurd hw List.not_mem_nil
  | x :: r, k, hK, hw, h => by
    have wx := hw x List.mem_cons_self
    rcases Int.lt_or_le 0 (ae_ev ρ x) with h1 | h1
    · have hn := ae_neg_dn (n := k.1) (ρ := ρ) (a := x) (x := ae_ev ρ x) ⟨wx, rfl⟩ 1
      obtain ⟨k1, m1, K1, n1⟩ := ae_as_ok hK hn (by omega)
      have h2 : ∃ w ∈ r, ae_ev ρ w ≤ 0 := by
        obtain ⟨w, hw2, h3⟩ := h
        rcases List.mem_cons.mp hw2 with rfl | hw2
        · omega
        · exact ⟨w, hw2, h3⟩
      obtain ⟨k2, m2, K2, n2⟩ := ae_fk_ok (ws := r) K1 (fun w hw2 => by rw [n1]; exact hw w (List.mem_cons_of_mem _ hw2)) h2
      exact ⟨k2, List.mem_append_right _ (List.mem_flatMap.mpr ⟨k1, m1, m2⟩), K2, n2.trans n1⟩
    · obtain ⟨k1, m1, K1, n1⟩ := ae_as_ok hK ⟨wx, rfl⟩ h1
      exact ⟨k1, List.mem_append_left _ m1, K1, n1⟩
noncomputable def ae_f2 (ex : Bool) (k : ae_K) (M : List ae_M) (p : Nat) (e : ae_X) (f : ae_Fm) (o : Nat) : List ae_K :=
  bif !(Nat.beq f.1 p) || (ex && f.2.2.2.2.1) then [k] else match ae_ci k e f o with
  | none => [k]
  | some b => match ae_cx true k M p b f.2.2.2.2.2 with
    | none => [k]
    | some ws => bif ws.any (ae_z k) then [k] else ae_fk k ws
theorem ae_f2_ok (hf : ae_fok = true) {p j : Nat} {e : ae_X} (he : ae_dn k.1 ρ e (j : Int)) (hK : ae_okK ρ k) (hH : ae_hp ex k.1 ρ L xs M h) {f : ae_Fm} (hm : f ∈ ae_fam) (o : Nat) : ∃ k' ∈ ae_f2 ex k M p e f o, ae_okK ρ k' ∧ k'.1 = k.1 := by
  have id1 : ∃ k' ∈ [k], ae_okK ρ k' ∧ k'.1 = k.1 := ⟨k, List.mem_singleton.mpr rfl, hK, rfl⟩
  unfold ae_f2
  cases hb : (!(Nat.beq f.1 p) || (ex && f.2.2.2.2.1)) with
  | true => exact id1
  | false =>
    simp only [Bool.or_eq_false_iff, Bool.not_eq_false'] at hb
    have hp := Nat.eq_of_beq_eq_true hb.1
    simp only [cond_false]
    split
    · exact id1
    · rename_i b hci
      split
      · exact id1
      · rename_i ws hcx
        cases hz : ws.any (ae_z k) with
        | true => exact id1
        | false =>
          have hfo := List.all_eq_true.mp hf f hm
          simp only [Bool.and_eq_true] at hfo
          obtain ⟨i, hi, hj, hd⟩ := ae_ci_ok hK (Nat.blt_eq.mp hfo.1.1.1) he hci
          obtain ⟨g1, g2, g3⟩ := ae_cx_ok hK hH hd hcx
          rw [← hp] at g2 g3
          refine ae_fk_ok hK g1 (g2 ?_)
          rcases hH.2.2.2 f hm i hi with q | ⟨o', ho', q⟩ | q
          · exact q
          · exact absurd q (g3 rfl o' ho')
          · have := hb.2
            rw [q.1, q.2] at this
            cases this
noncomputable def ae_f3 (ex : Bool) (M : List ae_M) (p : Nat) (e : ae_X) (f : ae_Fm) : List Nat → ae_K → List ae_K
  | [], k => [k]
  | o :: r, k => (ae_f2 ex k M p e f o).flatMap (ae_f3 ex M p e f r)
noncomputable def ae_f4 (ex : Bool) (M : List ae_M) (p : Nat) (e : ae_X) : List ae_Fm → ae_K → List ae_K
  | [], k => [k]
  | f :: r, k => bif Nat.beq f.1 p then (ae_f3 ex M p e f (ae_of f.2.2.2.2.2).eraseDups k).flatMap (ae_f4 ex M p e r) else ae_f4 ex M p e r k
theorem ae_f3_ok (hf : ae_fok = true) {p j : Nat} {e : ae_X} {f : ae_Fm} (hm : f ∈ ae_fam) : ∀ {os : List Nat} {k : ae_K}, ae_dn k.1 ρ e (j : Int) → ae_okK ρ k → ae_hp ex k.1 ρ L xs M h → ∃ k' ∈ ae_f3 ex M p e f os k, ae_okK ρ k' ∧ k'.1 = k.1
  | [], k, _, hK, _ => ⟨k, List.mem_singleton.mpr rfl, hK, rfl⟩
  | o :: r, k, he, hK, hH => by
    obtain ⟨k1, m1, K1, n1⟩ := ae_f2_ok hf he hK hH hm o
    obtain ⟨k2, m2, K2, n2⟩ := ae_f3_ok hf hm (os := r) (k := k1) (by rw [n1]; exact he) K1 (by rw [n1]; exact hH)
    exact ⟨k2, List.mem_flatMap.mpr ⟨k1, m1, m2⟩, K2, n2.trans n1⟩
theorem ae_f4_ok (hf : ae_fok = true) {p j : Nat} {e : ae_X} : ∀ {fs : List ae_Fm} {k : ae_K}, (∀ f ∈ fs, f ∈ ae_fam) → ae_dn k.1 ρ e (j : Int) → ae_okK ρ k → ae_hp ex k.1 ρ L xs M h → ∃ k' ∈ ae_f4 ex M p e fs k, ae_okK ρ k' ∧ k'.1 = k.1
  | [], k, _, _, hK, _ => ⟨k, List.mem_singleton.mpr rfl, hK, rfl⟩
  | f :: r, k, hm, he, hK, hH => by
    unfold ae_f4
    cases Nat.beq f.1 p with
    | true =>
      obtain ⟨k1, m1, K1, n1⟩ := ae_f3_ok hf (p := p) (hm f List.mem_cons_self) (os := (ae_of f.2.2.2.2.2).eraseDups) he hK hH
      obtain ⟨k2, m2, K2, n2⟩ := ae_f4_ok hf (fs := r) (k := k1) (fun g hg => hm g (List.mem_cons_of_mem _ hg)) (by rw [n1]; exact he) K1 (by rw [n1]; exact hH)
      exact ⟨k2, List.mem_flatMap.mpr ⟨k1, m1, m2⟩, K2, n2.trans n1⟩
    | false => exact ae_f4_ok hf (fs := r) (fun g hg => hm g (List.mem_cons_of_mem _ hg)) he hK hH
/-- the families of a place; where the index is told: those that have it -/
noncomputable def ae_ff (p : Nat) : List ae_Fm := ae_fam.filter fun f => Nat.beq f.1 p
noncomputable def ae_hit (c : Int) (f : ae_Fm) (o : Nat) : Bool := ae_ie ((c - ((f.2.1 : Int) + (o : Int))) % (f.2.2.1 : Int)) 0 && ae_le ((f.2.1 : Int) + (o : Int)) c && ae_le c ((f.2.1 : Int) + (o : Int) + (f.2.2.1 : Int) * ((f.2.2.2.1 : Int) - 1))
noncomputable def ae_ffm (p m : Nat) : List ae_Fm := ae_fam.filter fun f => Nat.beq f.1 p && (ae_of f.2.2.2.2.2).any (ae_hit (((m + 1 : Nat) : Int)) f)
/-- those that reach into a range -/
noncomputable def ae_ffo (p m n : Nat) : List ae_Fm := ae_fam.filter fun f => Nat.beq f.1 p && (ae_of f.2.2.2.2.2).any fun o => Nat.ble (f.2.1 + o) n && Nat.ble m (f.2.1 + o + f.2.2.1 * (f.2.2.2.1 - 1))
noncomputable def ae_ffr (p : Nat) (a b : Int) : List ae_Fm := match a with
  | .ofNat (m + 1) => (match b with
    | .ofNat (n + 1) => ae_ffo p m n
    | _ => ae_ff p)
  | _ => ae_ff p
noncomputable def ae_ffb (k : ae_K) (p : Nat) (e : ae_X) : List ae_Fm := match ae_ub k.2.1 (ae_neg e 0) with
  | some a => (match ae_ub k.2.1 e with
    | some b => ae_ffr p (1 - a) (b + 1)
    | none => ae_ff p)
  | none => ae_ff p
noncomputable def ae_ffe (k : ae_K) (p : Nat) (e : ae_X) : List ae_Fm := match e with
  | (.ofNat (m + 1), []) => ae_ffm p m
  | (c, l) => ae_ffb k p (c, l)
theorem ae_ff_sub {p : Nat} {f : ae_Fm} (h : f ∈ ae_ff p) : f ∈ ae_fam := (List.mem_filter.mp h).1
theorem ae_ffr_sub {p : Nat} {a b : Int} {f : ae_Fm} (h : f ∈ ae_ffr p a b) : f ∈ ae_fam := by
  unfold ae_ffr at h
  split at h
  · split at h
    · exact (List.mem_filter.mp h).1
    · exact ae_ff_sub h
  · exact ae_ff_sub h
theorem ae_ffb_sub {k : ae_K} {p : Nat} {e : ae_X} {f : ae_Fm} (h : f ∈ ae_ffb k p e) : f ∈ ae_fam := by
  unfold ae_ffb at h
  split at h
  · split at h
    · exact ae_ffr_sub h
    · exact ae_ff_sub h
  · exact ae_ff_sub h
theorem ae_ffe_sub {k : ae_K} {p : Nat} {e : ae_X} {f : ae_Fm} (h : f ∈ ae_ffe k p e) : f ∈ ae_fam := by
  unfold ae_ffe at h
  split at h
  · exact (List.mem_filter.mp h).1
  · exact ae_ffb_sub h
theorem ae_hit_ok {c : Int} {f : ae_Fm} {o i : Nat} (hi : i < f.2.2.2.1) (he : c = ((f.2.1 + f.2.2.1 * i + o : Nat) : Int)) : ae_hit c f o = true := by
  have e1 : ((f.2.1 + f.2.2.1 * i + o : Nat) : Int) = (f.2.1 : Int) + (f.2.2.1 : Int) * (i : Int) + (o : Int) := by
    rw [Int.natCast_add, Int.natCast_add, Int.natCast_mul]
  have e2 : c - ((f.2.1 : Int) + (o : Int)) = (f.2.2.1 : Int) * (i : Int) := by omega
  have e3 : (0 : Int) ≤ (f.2.2.1 : Int) * (i : Int) := Int.mul_nonneg (Int.natCast_nonneg _) (Int.natCast_nonneg _)
  have e4 : (f.2.2.1 : Int) * (i : Int) ≤ (f.2.2.1 : Int) * ((f.2.2.2.1 : Int) - 1) := Int.mul_le_mul_of_nonneg_left (by omega) (Int.natCast_nonneg _)
  unfold ae_hit
  rw [e2, Int.mul_emod_right, ae_ie_rf, ae_le_iff.mpr (show (f.2.1 : Int) + (o : Int) ≤ c by omega), ae_le_iff.mpr (show c ≤ (f.2.1 : Int) + (o : Int) + (f.2.2.1 : Int) * ((f.2.2.2.1 : Int) - 1) by omega)]
  rfl
theorem ae_ffr_mem {p : Nat} {a b : Int} {f : ae_Fm} {o i : Nat} (hm : f ∈ ae_fam) (hp : f.1 = p) (ho : o ∈ ae_of f.2.2.2.2.2) (hi : i < f.2.2.2.1) (h1 : a ≤ ((f.2.1 + f.2.2.1 * i + o : Nat) : Int) + 1) (h2 : ((f.2.1 + f.2.2.1 * i + o : Nat) : Int) + 1 ≤ b) : f ∈ ae_ffr p a b := by
  have hb : Nat.beq f.1 p = true := by rw [hp]; exact Nat.beq_refl p
  have hf : f ∈ ae_ff p := List.mem_filter.mpr ⟨hm, hb⟩
  unfold ae_ffr
  split
  · rename_i m
    split
    · rename_i n
      have h1 : (((m + 1 : Nat) : Int)) ≤ ((f.2.1 + f.2.2.1 * i + o : Nat) : Int) + 1 := h1
      have h2 : ((f.2.1 + f.2.2.1 * i + o : Nat) : Int) + 1 ≤ (((n + 1 : Nat) : Int)) := h2
      have h3 : f.2.2.1 * i ≤ f.2.2.1 * (f.2.2.2.1 - 1) := Nat.mul_le_mul_left _ (by omega)
      refine List.mem_filter.mpr ⟨hm, ?_⟩
      rw [hb, Bool.true_and]
      refine List.any_eq_true.mpr ⟨o, ho, ?_⟩
      rw [Nat.ble_eq_true_of_le (show f.2.1 + o ≤ n by omega), Nat.ble_eq_true_of_le (show m ≤ f.2.1 + o + f.2.2.1 * (f.2.2.2.1 - 1) by omega)]
      rfl
    · exact hf
  · exact hf
theorem ae_ffe_mem {r : Nat → Int} {k : ae_K} (hK : ae_okK r k) {p : Nat} {e : ae_X} {f : ae_Fm} {o i : Nat} (hm : f ∈ ae_fam) (hp : f.1 = p) (ho : o ∈ ae_of f.2.2.2.2.2) (hi : i < f.2.2.2.1) (he : ae_ev r e = ((f.2.1 + f.2.2.1 * i + o : Nat) : Int)) : f ∈ ae_ffe k p e := by
  have hb : Nat.beq f.1 p = true := by rw [hp]; exact Nat.beq_refl p
  have hf : f ∈ ae_ff p := List.mem_filter.mpr ⟨hm, hb⟩
  unfold ae_ffe
  split
  · rename_i m
    have he : (((m + 1 : Nat) : Int)) + 0 = ((f.2.1 + f.2.2.1 * i + o : Nat) : Int) := he
    refine List.mem_filter.mpr ⟨hm, ?_⟩
    rw [hb, Bool.true_and]
    exact List.any_eq_true.mpr ⟨o, ho, ae_hit_ok hi (by omega)⟩
  · rename_i c l _
    unfold ae_ffb
    split
    · rename_i a ha
      split
      · rename_i b hbb
        have u1 := ae_ub_ok hK.1 ha
        have u2 := ae_ub_ok hK.1 hbb
        rw [ae_neg_ev] at u1
        exact ae_ffr_mem hm hp ho hi (by omega) (by omega)
      · exact hf
    · exact hf
/-- behind a reading at e: what its clauses say -/
noncomputable def ae_fks (ex : Bool) (k : ae_K) (M : List ae_M) (p : Nat) (e : ae_X) : List ae_K := ae_f4 ex M p (ae_nr k e) (ae_ffe k p (ae_nr k e)) k
theorem ae_fks_ok (hf : ae_fok = true) {p j : Nat} {e : ae_X} (he : ae_dn k.1 ρ e (j : Int)) (hK : ae_okK ρ k) (hH : ae_hp ex k.1 ρ L xs M h) : ∃ k' ∈ ae_fks ex k M p e, ae_okK ρ k' ∧ k'.1 = k.1 :=
  ae_f4_ok hf (fun _ h => ae_ffe_sub h) (ae_nr_dn hK he) hK hH
end AEC

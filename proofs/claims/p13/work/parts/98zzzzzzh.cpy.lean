/-! Copies: ties go along -/
/-- cells that a copy leaves as they are -/
noncomputable def rb_k1 (w : ae_Mo) (dst dO N n p b s : Nat) : Bool := !(Nat.beq p dst) || ((Nat.ble (b + s * (n - 1) + 1) dO || Nat.ble (dO + N) b) && ab_np w p b (b + s * (n - 1)))
/-- where copied cells are then; or they stay -/
noncomputable def rb_c1 (w : ae_Mo) (src so N dst dO n p b s : Nat) : Option (Nat × Nat) :=
  bif Nat.beq p src && (Nat.ble so b && Nat.ble (b + s * (n - 1) + 1) (so + N)) then (bif ab_np w p b (b + s * (n - 1)) then some (dst, dO + (b - so)) else none)
  else (bif rb_k1 w dst dO N n p b s then some (p, b) else none)
noncomputable def rb_kl (w : ae_Mo) (dst dO N n : Nat) (l : List ab_Tt) : Bool := l.all fun q => rb_k1 w dst dO N n q.2.1 q.2.2.1 q.2.2.2
noncomputable def rb_kt (w : ae_Mo) (dst dO N : Nat) (t : ab_Ti) : Bool := rb_k1 w dst dO N t.2.2.1 t.1 t.2.1 t.st && rb_kl w dst dO N t.2.2.1 t.2.2.2.1.2 && t.2.2.2.2.1.all fun g => rb_kl w dst dO N t.2.2.1 g.2.2
noncomputable def rb_rl (w : ae_Mo) (src so N dst dO n : Nat) : List ab_Tt → Option (List ab_Tt)
  | [] => some []
  | q :: r => (rb_c1 w src so N dst dO n q.2.1 q.2.2.1 q.2.2.2).bind fun c => (rb_rl w src so N dst dO n r).bind fun l => some ((q.1, c.1, c.2, q.2.2.2) :: l)
noncomputable def rb_rg (w : ae_Mo) (src so N dst dO n : Nat) : List ab_Gd → Option (List ab_Gd)
  | [] => some []
  | g :: r => (rb_rl w src so N dst dO n g.2.2).bind fun c => (rb_rg w src so N dst dO n r).bind fun l => some ((g.1, g.2.1, c) :: l)
noncomputable def rb_rt (w : ae_Mo) (src so N dst dO : Nat) (t : ab_Ti) : Option ab_Ti := (rb_c1 w src so N dst dO t.2.2.1 t.1 t.2.1 t.st).bind fun c => (rb_rl w src so N dst dO t.2.2.1 t.2.2.2.1.2).bind fun l => (rb_rg w src so N dst dO t.2.2.1 t.2.2.2.2.1).bind fun g => some (c.1, c.2, t.2.2.1, (t.2.2.2.1.1, l), g, t.st)
/-- whether it speaks of the source -/
noncomputable def rb_ms (src so N : Nat) (t : ab_Ti) : Bool := (Nat.beq t.2.2.1 30 || Nat.beq src 224) && ((Nat.beq t.1 src && (Nat.ble so t.2.1 && Nat.blt t.2.1 (so + N))) || t.2.2.2.1.2.any (fun q => Nat.beq q.2.1 src) || t.2.2.2.2.1.any fun g => g.2.2.any fun q => Nat.beq q.2.1 src)
noncomputable def rb_T (w : ae_Mo) (src so N dst dO : Nat) (T : List ab_Ti) : List ab_Ti := T.filter (rb_kt w dst dO N) ++ (T.filter (rb_ms src so N)).filterMap (rb_rt w src so N dst dO)
/-- entries of old that a copy leaves -/
noncomputable def rb_om (w : ae_Mo) (dst dO N : Nat) (m : ae_M) : Bool := !(Nat.beq m.1 dst) || (ae_kc m.2.1 && (ae_nn m.2.1.1 && rb_k1 w dst dO N 1 m.1 m.2.1.1.toNat 0))
section RBD
variable {L : Nat} {xs : Nat → Int32} {w : ae_Mo} {h0 h h' : List am_E} {src so N dst dO : Nat}
theorem rb_k1_ok (hd : 0 < dst) (hF : ae_fr w L xs h0 h) (l0 : dst - 1 < h0.length) (l1 : dst - 1 < h'.length) (C2 : ∀ q j, ¬ (q = dst ∧ dO ≤ j ∧ j < dO + N) → ae_cell L xs h' q j = ae_cell L xs h q j) {n p b s i : Nat} (hi : i < n) (q : rb_k1 w dst dO N n p b s = true) : ab_cv L xs (rb_set h0 h' dst) p (b + s * i) = ab_cv L xs h0 p (b + s * i) := by
  show ab_vz (ae_cell L xs (rb_set h0 h' dst) p (b + s * i)) = ab_vz (ae_cell L xs h0 p (b + s * i))
  have hle : s * i ≤ s * (n - 1) := Nat.mul_le_mul_left _ (by omega)
  by_cases hp : p = dst
  · subst hp
    unfold rb_k1 at q
    rw [Nat.beq_refl] at q
    have q : ((Nat.ble (b + s * (n - 1) + 1) dO || Nat.ble (dO + N) b) && ab_np w p b (b + s * (n - 1))) = true := q
    rw [Bool.and_eq_true] at q
    rw [rb_at hd l0 l1, C2 p _ (fun ⟨_, g1, g2⟩ => by
      rcases Bool.or_eq_true_iff.mp q.1 with q1 | q1
      · have := Nat.le_of_ble_eq_true q1; omega
      · have := Nat.le_of_ble_eq_true q1; omega), hF p _ (ab_np_ok (Nat.le_add_right _ _) (Nat.add_le_add_left hle _) q.2)]
  · rw [rb_ne hd hp]
theorem rb_c1_ok (hd : 0 < dst) (hF : ae_fr w L xs h0 h) (l0 : dst - 1 < h0.length) (l1 : dst - 1 < h'.length) (C1 : ∀ i, i < N → ae_cell L xs h' dst (dO + i) = ae_cell L xs h src (so + i)) (C2 : ∀ q j, ¬ (q = dst ∧ dO ≤ j ∧ j < dO + N) → ae_cell L xs h' q j = ae_cell L xs h q j) {n p b s i : Nat} (hi : i < n) {c : Nat × Nat} (q : rb_c1 w src so N dst dO n p b s = some c) : ab_cv L xs (rb_set h0 h' dst) c.1 (c.2 + s * i) = ab_cv L xs h0 p (b + s * i) := by
  unfold rb_c1 at q
  have hle : s * i ≤ s * (n - 1) := Nat.mul_le_mul_left _ (by omega)
  cases hb : Nat.beq p src && (Nat.ble so b && Nat.ble (b + s * (n - 1) + 1) (so + N)) with
  | true =>
    rw [hb] at q
    obtain ⟨q1, q⟩ := ae_bif (show (bif _ then some (dst, dO + (b - so)) else none) = some c from q)
    cases q
    simp only [Bool.and_eq_true] at hb
    obtain ⟨b1, b2, b3⟩ := hb
    have b1 := Nat.eq_of_beq_eq_true b1
    have b2 := Nat.le_of_ble_eq_true b2
    have b3 := Nat.le_of_ble_eq_true b3
    subst b1
    show ab_vz (ae_cell L xs (rb_set h0 h' dst) dst (dO + (b - so) + s * i)) = ab_vz (ae_cell L xs h0 p (b + s * i))
    rw [rb_at hd l0 l1, show dO + (b - so) + s * i = dO + (b + s * i - so) by omega, C1 _ (by omega), show so + (b + s * i - so) = b + s * i by omega, hF p _ (ab_np_ok (Nat.le_add_right _ _) (Nat.add_le_add_left hle _) q1)]
  | false =>
    rw [hb] at q
    obtain ⟨q1, q⟩ := ae_bif (show (bif _ then some (p, b) else none) = some c from q)
    cases q
    exact rb_k1_ok hd hF l0 l1 C2 hi q1
theorem rb_kl_ok (hd : 0 < dst) (hF : ae_fr w L xs h0 h) (l0 : dst - 1 < h0.length) (l1 : dst - 1 < h'.length) (C2 : ∀ q j, ¬ (q = dst ∧ dO ≤ j ∧ j < dO + N) → ae_cell L xs h' q j = ae_cell L xs h q j) {n i : Nat} (hi : i < n) {l : List ab_Tt} (q : rb_kl w dst dO N n l = true) : ab_sum (ab_cv L xs (rb_set h0 h' dst)) i l = ab_sum (ab_cv L xs h0) i l :=
  ab_sum_eq fun u hu => rb_k1_ok hd hF l0 l1 C2 hi (List.all_eq_true.mp q u hu)
theorem rb_rl_ok (hd : 0 < dst) (hF : ae_fr w L xs h0 h) (l0 : dst - 1 < h0.length) (l1 : dst - 1 < h'.length) (C1 : ∀ i, i < N → ae_cell L xs h' dst (dO + i) = ae_cell L xs h src (so + i)) (C2 : ∀ q j, ¬ (q = dst ∧ dO ≤ j ∧ j < dO + N) → ae_cell L xs h' q j = ae_cell L xs h q j) {n i : Nat} (hi : i < n) : ∀ {l l' : List ab_Tt}, rb_rl w src so N dst dO n l = some l' → ab_sum (ab_cv L xs (rb_set h0 h' dst)) i l' = ab_sum (ab_cv L xs h0) i l
  | [], l', q => by cases q; rfl
  | u :: r, l', q => by
    obtain ⟨c, h1, q⟩ := Option.bind_eq_some_iff.mp q
    obtain ⟨l, h2, q⟩ := Option.bind_eq_some_iff.mp q
    cases q
    show u.1 * ab_cv L xs (rb_set h0 h' dst) c.1 (c.2 + u.2.2.2 * i) + ab_sum _ i l = u.1 * ab_cv L xs h0 u.2.1 (u.2.2.1 + u.2.2.2 * i) + ab_sum (ab_cv L xs h0) i r
    rw [rb_c1_ok hd hF l0 l1 C1 C2 hi h1, rb_rl_ok hd hF l0 l1 C1 C2 hi h2]
theorem rb_rg_ok (hd : 0 < dst) (hF : ae_fr w L xs h0 h) (l0 : dst - 1 < h0.length) (l1 : dst - 1 < h'.length) (C1 : ∀ i, i < N → ae_cell L xs h' dst (dO + i) = ae_cell L xs h src (so + i)) (C2 : ∀ q j, ¬ (q = dst ∧ dO ≤ j ∧ j < dO + N) → ae_cell L xs h' q j = ae_cell L xs h q j) {n i : Nat} (hi : i < n) : ∀ {l l' : List ab_Gd}, rb_rg w src so N dst dO n l = some l' → (∃ g ∈ l, ab_gd (ab_cv L xs h0) i g ≤ 0) → ∃ g ∈ l', ab_gd (ab_cv L xs (rb_set h0 h' dst)) i g ≤ 0
  | [], l', _, ⟨_, hg, _⟩ => absurd hg List.not_mem_nil
  | u :: r, l', q, ⟨g, hg, hz⟩ => by
    obtain ⟨c, h1, q⟩ := Option.bind_eq_some_iff.mp q
    obtain ⟨l, h2, q⟩ := Option.bind_eq_some_iff.mp q
    cases q
    rcases List.mem_cons.mp hg with rfl | hg
    · refine ⟨_, List.mem_cons_self, ?_⟩
      show g.1 + g.2.1 * (i : Int) + ab_sum (ab_cv L xs (rb_set h0 h' dst)) i c ≤ 0
      rw [rb_rl_ok hd hF l0 l1 C1 C2 hi h1]
      exact hz
    · obtain ⟨g', m, z⟩ := rb_rg_ok hd hF l0 l1 C1 C2 hi h2 ⟨g, hg, hz⟩
      exact ⟨g', List.mem_cons_of_mem _ m, z⟩
theorem rb_T_ok (hd : 0 < dst) (hF : ae_fr w L xs h0 h) (l0 : dst - 1 < h0.length) (l1 : dst - 1 < h'.length) (C1 : ∀ i, i < N → ae_cell L xs h' dst (dO + i) = ae_cell L xs h src (so + i)) (C2 : ∀ q j, ¬ (q = dst ∧ dO ≤ j ∧ j < dO + N) → ae_cell L xs h' q j = ae_cell L xs h q j) {T : List ab_Ti} (hT : ab_RI T (ab_cv L xs h0)) : ab_RI (rb_T w src so N dst dO T) (ab_cv L xs (rb_set h0 h' dst)) := by
  intro t ht i hi
  rcases List.mem_append.mp ht with ht | ht
  · obtain ⟨m1, m2⟩ := List.mem_filter.mp ht
    unfold rb_kt at m2
    simp only [Bool.and_eq_true] at m2
    obtain ⟨⟨k1, k2⟩, k3⟩ := m2
    rcases hT t m1 i hi with ⟨g, hg, hz⟩ | hz
    · refine Or.inl ⟨g, hg, ?_⟩
      unfold ab_gd at hz ⊢
      rw [rb_kl_ok hd hF l0 l1 C2 hi (List.all_eq_true.mp k3 g hg)]
      exact hz
    · refine Or.inr ?_
      rw [rb_kl_ok hd hF l0 l1 C2 hi k2, rb_k1_ok hd hF l0 l1 C2 hi k1]
      exact hz
  · obtain ⟨u, m1, q⟩ := List.mem_filterMap.mp ht
    obtain ⟨c, q1, q⟩ := Option.bind_eq_some_iff.mp q
    obtain ⟨l, q2, q⟩ := Option.bind_eq_some_iff.mp q
    obtain ⟨g, q3, q⟩ := Option.bind_eq_some_iff.mp q
    cases q
    have hi : i < u.2.2.1 := hi
    rcases hT u (List.mem_filter.mp m1).1 i hi with hz | hz
    · exact Or.inl (rb_rg_ok hd hF l0 l1 C1 C2 hi q3 hz)
    · refine Or.inr ?_
      show ab_cv L xs (rb_set h0 h' dst) c.1 (c.2 + u.st * i) = u.2.2.2.1.1 + ab_sum (ab_cv L xs (rb_set h0 h' dst)) i l
      rw [rb_c1_ok hd hF l0 l1 C1 C2 hi q1, rb_rl_ok hd hF l0 l1 C1 C2 hi q2]
      exact hz
/-- what was known where the walk began, behind a copy -/
theorem rb_old {n : Nat} {ρ : Nat → Int} {O : List ae_M} {T : List ab_Ti} (hd : 0 < dst) (hs : ae_shp h) (hs' : ae_shp h') (hdn : dst ≤ ae_np) (C1 : ∀ i, i < N → ae_cell L xs h' dst (dO + i) = ae_cell L xs h src (so + i)) (C2 : ∀ q j, ¬ (q = dst ∧ dO ≤ j ∧ j < dO + N) → ae_cell L xs h' q j = ae_cell L xs h q j) (old : ab_old n ρ L xs O w T h) (l0 : ∀ h0, ae_fr w L xs h0 h → dst - 1 < h0.length) : ab_old n ρ L xs (O.filter (rb_om w dst dO N)) w (rb_T w src so N dst dO T) h' := by
  obtain ⟨h0, r1, r2, r3⟩ := old
  have l1 : dst - 1 < h'.length := by rw [hs'.1]; omega
  have l0 := l0 h0 r2
  refine ⟨rb_set h0 h' dst, rb_T_ok hd r2 l0 l1 C1 C2 r1, fun q j hin => ?_, fun m hm => ?_⟩
  · by_cases hq : q = dst
    · subst hq; exact (rb_at hd l0 l1 j).symm
    · rw [rb_ne hd hq, C2 q j (fun h => hq h.1)]
      exact r2 q j hin
  · obtain ⟨m1, m2⟩ := List.mem_filter.mp hm
    obtain ⟨j, v, d, c, o⟩ := r3 m m1
    refine ⟨j, v, d, ?_, o⟩
    by_cases hq : m.1 = dst
    · unfold rb_om at m2
      rw [hq, Nat.beq_refl] at m2
      have m2 : (ae_kc m.2.1 && (ae_nn m.2.1.1 && rb_k1 w dst dO N 1 dst m.2.1.1.toNat 0)) = true := m2
      rw [Bool.and_eq_true, Bool.and_eq_true] at m2
      obtain ⟨a1, a2, a3⟩ := m2
      have ej : m.2.1.1.toNat = j := by
        have e1 := ae_kc_ok a1 d
        have e3 := ae_nn_iff.mp a2
        omega
      unfold rb_k1 at a3
      rw [Nat.beq_refl, ej, Nat.zero_mul, Nat.add_zero] at a3
      have a3 : ((Nat.ble (j + 1) dO || Nat.ble (dO + N) j) && ab_np w dst j j) = true := a3
      rw [Bool.and_eq_true] at a3
      rw [hq] at c ⊢
      rw [rb_at hd l0 l1, C2 dst j (fun ⟨_, g1, g2⟩ => by
        rcases Bool.or_eq_true_iff.mp a3.1 with q1 | q1
        · have := Nat.le_of_ble_eq_true q1; omega
        · have := Nat.le_of_ble_eq_true q1; omega), r2 dst j (ab_np_ok (Nat.le_refl _) (Nat.le_refl _) a3.2)]
      exact c
    · rw [rb_ne hd hq]; exact c
end RBD
/-! the class copies a whole row of ints -/
noncomputable def rb_isac (f : ap_F) : Bool := match am_code f.2.1 f.2.2.1 with
  | some q => (match q.1 with
    | .invokestatic _ => Nat.beq q.2.1 1004
    | _ => false)
  | none => false
theorem rb_isac_ok {f : ap_F} (q : rb_isac f = true) : ∃ w b, am_code f.2.1 f.2.2.1 = some (.invokestatic w, 1004, b) := by
  unfold rb_isac at q
  split at q
  · rename_i c hc
    obtain ⟨i, a, b⟩ := c
    split at q
    · rename_i w hi
      have hi : i = .invokestatic w := hi
      subst hi
      have e : a = 1004 := Nat.eq_of_beq_eq_true q
      subst e
      exact ⟨w, b, hc⟩
    · cases q
  · cases q
noncomputable def rb_len2 (p : Nat) : Nat := (ae_sh p).2.2
/-- what is known of the source is known of the copy -/
noncomputable def rb_tr (S D : Nat) (m : ae_M) : Option ae_M := bif Nat.beq m.1 S && !m.2.2.2 then some (D, m.2.1, m.2.2.1, false) else none
noncomputable def rb_ac (R : ae_Mo) (z : ab_St) : Option (List ab_St) := match z.t1.1 with
  | f :: r => (match f.2.2.2.2 with
    | n :: dp :: D :: sp :: S :: st => bif rb_isac f && Nat.beq n.1 0 && Nat.beq dp.1 0 && Nat.beq D.1 2 && Nat.beq sp.1 0 && Nat.beq S.1 2 && ae_isA D.2.1 0 && ae_isA S.2.1 0 && am_sd ap_b false D.2.1 && am_sd ap_b false S.2.1 && Nat.beq (rb_len2 S.2.1) (rb_len2 D.2.1) && Nat.blt 0 (rb_len2 D.2.1) && ae_rg z.k n.2.2 (rb_len2 D.2.1 : Int) (rb_len2 D.2.1 : Int) && ae_rg z.k dp.2.2 0 0 && ae_rg z.k sp.2.2 0 0 && ab_nl st && Nat.ble 1 f.1 && ae_sub2 [(D.2.1, 0, (rb_len2 D.2.1 : Int) - 1)] R && !(ae_inm z.w D.2.1 0) && (List.range (rb_len2 D.2.1)).all (ae_cpv false S.2.1 0 D.2.1 0) && ae_cpf false S.2.1 0 D.2.1 0 (rb_len2 D.2.1) then
        (ae_vd false z.k z.m).bind fun M => (ae_kept z.k [(D.2.1, 0, (rb_len2 D.2.1 : Int) - 1)] M).map fun M2 => [(z.k, M.filterMap (rb_tr S.2.1 D.2.1) ++ M2, z.o.filter (rb_om z.w D.2.1 0 (rb_len2 D.2.1)), z.w, rb_T z.w S.2.1 0 (rb_len2 D.2.1) D.2.1 0 z.T, ((f.1, f.2.1, f.2.2.1 + 3, f.2.2.2.1, st) :: r, none), z.t2)]
      else none
    | _ => none)
  | [] => none
section RBE
variable {L : Nat} {xs : Nat → Int32}
theorem rb_acp {pc : Nat} {lw : am_L} {sw : List Value} {h : List am_E} {S D : Nat} {n dp sp : Int32} (hs : ae_shp h) (hS : ae_isA S 0 = true) (hD : ae_isA D 0 = true) (el : (ae_sh S).2.2 = (ae_sh D).2.2) (e1 : n.toInt = ((ae_sh D).2.2 : Int)) (e2 : dp.toInt = 0) (e3 : sp.toInt = 0) : ∃ ef h', am_sys 1004 pc lw (.int n :: .int dp :: .ref D :: .int sp :: .ref S :: sw) h = some (pc + 3, lw, sw, ef) ∧ am_app h ef = some h' ∧ ae_cpd false S 0 D 0 (ae_sh D).2.2 L xs h h' := by
  have f1 := ae_clamp (x := n) (by omega)
  have f2 := ae_clamp (x := dp) (by omega)
  have f3 := ae_clamp (x := sp) (by omega)
  have k1 : Nat.ble (sp.toNatClampNeg + n.toNatClampNeg) (ae_sh S).2.2 = true := Nat.ble_eq_true_of_le (by omega)
  have k2 : Nat.ble (dp.toNatClampNeg + n.toNatClampNeg) (ae_sh D).2.2 = true := Nat.ble_eq_true_of_le (by omega)
  have kc : (!(decide (sp < 0)) && !(decide (dp < 0)) && !(decide (n < 0)) && Nat.ble (sp.toNatClampNeg + n.toNatClampNeg) (ae_sh S).2.2 && Nat.ble (dp.toNatClampNeg + n.toNatClampNeg) (ae_sh D).2.2) = true := by
    rw [decide_eq_false (ae_nonneg (x := sp) (by omega)), decide_eq_false (ae_nonneg (x := dp) (by omega)), decide_eq_false (ae_nonneg (x := n) (by omega)), k1, k2]; rfl
  obtain ⟨i, c, p1, p2, p3, p4, -, -⟩ := ae_arr hs hS
  obtain ⟨f, rfl⟩ := p4 (by decide)
  obtain ⟨j, c', q1, q2, q3, q4, -, -⟩ := ae_arr hs hD
  obtain ⟨g, rfl⟩ := q4 (by decide)
  have m1 : am_ai h S 0 = some ((ae_sh S).2.2, f) := by
    rw [p1] at p3 ⊢
    show (match h[i]? with
      | some (.inl (c, n, .inl f)) => am_if (Nat.beq c 0) (some (n, f))
      | _ => none) = _
    rw [p3]; rfl
  have m2 : am_ai h D 0 = some ((ae_sh D).2.2, g) := by
    rw [q1] at q3 ⊢
    show (match h[j]? with
      | some (.inl (c, n, .inl f)) => am_if (Nat.beq c 0) (some (n, f))
      | _ => none) = _
    rw [q3]; rfl
  have m3 : am_sys 1004 pc lw (.int n :: .int dp :: .ref D :: .int sp :: .ref S :: sw) h = some (pc + 3, lw, sw, some (some (D - 1), .inl (0, (ae_sh D).2.2, .inl (va_cpy f g sp.toNatClampNeg dp.toNatClampNeg n.toNatClampNeg)))) := by
    show (match am_ai h S 0 with
      | some f => (am_ai h D 0).bind fun g => am_if (!(decide (sp < 0)) && !(decide (dp < 0)) && !(decide (n < 0)) && Nat.ble (sp.toNatClampNeg + n.toNatClampNeg) f.1 && Nat.ble (dp.toNatClampNeg + n.toNatClampNeg) g.1) (some (pc + 3, lw, sw, some (some (D - 1), .inl (0, g.1, .inl (va_cpy f.2 g.2 sp.toNatClampNeg dp.toNatClampNeg n.toNatClampNeg)))) : Option am_R4)
      | none => (am_al h S).bind fun f => (am_al h D).bind fun g => am_if (!(decide (sp < 0)) && !(decide (dp < 0)) && !(decide (n < 0)) && Nat.ble (sp.toNatClampNeg + n.toNatClampNeg) f.1 && Nat.ble (dp.toNatClampNeg + n.toNatClampNeg) g.1) (some (pc + 3, lw, sw, some (some (D - 1), .inl (2, g.1, .inr (.inl (va_cpy f.2 g.2 sp.toNatClampNeg dp.toNatClampNeg n.toNatClampNeg))))))) = _
    rw [m1]
    show ((am_ai h D 0).bind _) = _
    rw [m2]
    show am_if _ _ = _
    rw [kc]; rfl
  have e7 : D - 1 = j := by rw [q1]; rfl
  rw [e7] at m3
  have ha : am_app h (some (some j, .inl (0, (ae_sh D).2.2, .inl (va_cpy f g sp.toNatClampNeg dp.toNatClampNeg n.toNatClampNeg)))) = some (h.set j (.inl (0, (ae_sh D).2.2, .inl (va_cpy f g sp.toNatClampNeg dp.toNatClampNeg n.toNatClampNeg)))) := by
    show (h[j]?.bind fun e0 => bif Nat.beq (am_sz e0) (ae_sh D).2.2 then some (h.set j _) else none) = _
    rw [q3]
    show (bif Nat.beq (ae_sh D).2.2 (ae_sh D).2.2 then some (h.set j _) else none) = _
    rw [Nat.beq_refl]; rfl
  have hl : j < h.length := by rw [hs.1]; exact q2
  refine ⟨_, _, m3, ha, ⟨by rw [List.length_set]; exact hs.1, fun k hk => ?_⟩, fun q i0 => ?_⟩
  · by_cases hkj : k = j
    · subst hkj
      obtain ⟨e, g1, g2⟩ := hs.2 k hk
      rw [q3] at g1
      cases g1
      exact ⟨_, List.getElem?_set_self hl, g2.1, g2.2.1, g2.2.2.1, fun _ => ⟨_, rfl⟩, fun q => (by cases q), fun q => absurd (show 3 ≤ 0 from q) (by decide)⟩
    · rw [List.getElem?_set_ne (fun h => hkj h.symm)]
      exact hs.2 k hk
  · by_cases hq : q = D
    · rw [hq, q1]
      show ((h.set j _)[j]?.bind fun e => ae_ec e i0) = _
      rw [List.getElem?_set_self hl, Nat.beq_refl]
      show (bif Nat.blt i0 (ae_sh (j + 1)).2.2 then some (Value.int (va_cpy f g sp.toNatClampNeg dp.toNatClampNeg n.toNatClampNeg i0)) else none) = bif true && Nat.ble 0 i0 && Nat.blt i0 (0 + (ae_sh (j + 1)).2.2) then (bif false then some (.int 0) else ae_cell L xs h S (0 + (i0 - 0))) else ae_cell L xs h (j + 1) i0
      rw [← q1, Nat.zero_add, Nat.zero_add, Nat.sub_zero, Nat.ble_eq_true_of_le (Nat.zero_le i0)]
      cases hb : Nat.blt i0 (ae_sh D).2.2 with
      | true =>
        have hb2 := Nat.blt_eq.mp hb
        show some (Value.int (va_cpy f g _ _ _ i0)) = ae_cell L xs h S i0
        rw [show va_cpy f g sp.toNatClampNeg dp.toNatClampNeg n.toNatClampNeg i0 = f (sp.toNatClampNeg + (i0 - dp.toNatClampNeg)) from if_pos ⟨by omega, by omega⟩, show sp.toNatClampNeg + (i0 - dp.toNatClampNeg) = i0 by omega, p1]
        show _ = (h[i]?.bind fun e => ae_ec e i0)
        rw [p3]
        show _ = (bif Nat.blt i0 (ae_sh S).2.2 then some (Value.int (f i0)) else none)
        rw [el, hb]; rfl
      | false =>
        show none = ae_cell L xs h D i0
        rw [q1]
        show _ = (h[j]?.bind fun e => ae_ec e i0)
        rw [q3]
        show _ = (bif Nat.blt i0 (ae_sh D).2.2 then some (Value.int (g i0)) else none)
        rw [hb]; rfl
    · have e : Nat.beq q D = false := by
        cases hb : Nat.beq q D with
        | true => exact absurd (Nat.eq_of_beq_eq_true hb) hq
        | false => rfl
      rw [e]
      cases q with
      | zero => rfl
      | succ m =>
        show ((h.set j _)[m]?.bind fun e => ae_ec e i0) = (h[m]?.bind fun e => ae_ec e i0)
        rw [List.getElem?_set_ne (fun h => hq (by omega))]
end RBE
section RBF
variable {L : Nat} {xs : Nat → Int32} {ρ : Nat → Int}
theorem rb_l0 {w : ae_Mo} {h0 h : List am_E} {dst j : Nat} (hd : 0 < dst) (hdn : dst ≤ ae_np) (hs : ae_shp h) (hj : j < (ae_sh dst).2.2) (hin : ae_inm w dst j = false) (hF : ae_fr w L xs h0 h) : dst - 1 < h0.length := by
  obtain ⟨v, hv⟩ := ae_cell_ex (L := L) (xs := xs) hs hd hdn hj
  exact rb_len hd (by rw [← hF dst j hin]; exact hv)
/-- a copy within one thread's own heap, seen in both -/
theorem rb_cpm {s : Bool} {ho ho' hx : List am_E} {src so dst dO N : Nat} (q1 : ae_shp ho) (q2 : ae_shp hx) (h1 : am_sd ap_b s src = true) (h2 : am_sd ap_b s dst = true) (cp : ae_cpd false src so dst dO N L xs ho ho') :
    (∀ i, i < N → ae_cell L xs (am_mX2 ap_b s ho' hx) dst (dO + i) = ae_cell L xs (am_mX2 ap_b s ho hx) src (so + i)) ∧ ∀ q j, ¬ (q = dst ∧ dO ≤ j ∧ j < dO + N) → ae_cell L xs (am_mX2 ap_b s ho' hx) q j = ae_cell L xs (am_mX2 ap_b s ho hx) q j := by
  refine ⟨fun i hi => by rw [ap_c cp.1.1 q2.1 h2, ap_c q1.1 q2.1 h1]; exact ae_cpd_at cp hi, fun q j hn => ?_⟩
  cases hq : am_sd ap_b s q with
  | true =>
    rw [ap_c cp.1.1 q2.1 hq, ap_c q1.1 q2.1 hq]
    exact ae_cpd_no cp (by
      by_cases hqd : q = dst
      · by_cases hj : j < dO
        · exact Or.inr (Or.inl hj)
        · exact Or.inr (Or.inr (by
            have : ¬ j < dO + N := fun h => hn ⟨hqd, by omega, h⟩
            omega))
      · exact Or.inl hqd)
  | false => rw [ap_cx cp.1.1 q2.1 hq, ap_cx q1.1 q2.1 hq]
theorem rb_cpfr {h h' : List am_E} {src so dst dO N : Nat} (C2 : ∀ q j, ¬ (q = dst ∧ dO ≤ j ∧ j < dO + N) → ae_cell L xs h' q j = ae_cell L xs h q j) {a b : Int} (ha : a ≤ (dO : Int)) (hb : ((dO + N : Nat) : Int) ≤ b + 1) : ae_fr [(dst, a, b)] L xs h h' := by
  intro p j hp
  refine C2 p j fun ⟨h1, h2, h3⟩ => ?_
  have : ae_inm [(dst, a, b)] p j = true := List.any_eq_true.mpr ⟨_, List.mem_singleton.mpr rfl, by
    show (Nat.beq dst p && ae_le a (j : Int) && ae_le (j : Int) b) = true
    rw [h1, Nat.beq_refl, ae_le_iff.mpr (show a ≤ (j : Int) by omega), ae_le_iff.mpr (show (j : Int) ≤ b by omega)]; rfl⟩
  rw [this] at hp
  cases hp
theorem rb_ac_ok {mo R : ae_Mo} {G : List am_E → Prop} {Q : Option Value → Option Value → List am_E → List am_E → Prop} {Rr : Nat} {r0 : Nat → Int} (hf : ae_fok = true) (hG : ∀ h h', G h → ae_fr R L xs h h' → G h') (hmo : ae_sub2 R mo = true) : bh_ok mo G L xs Q Rr r0 (rb_ac R) := by
  intro z o ρ g1 g2 h1 h2 q S s1 s2
  obtain ⟨S1, S2, S4, S5, S6, S7, S8, S9, S10⟩ := S
  unfold rb_ac at q
  split at q <;> try (cases q; done)
  rename_i f r ht
  split at q <;> try (cases q; done)
  rename_i N DP T SP U st hst
  obtain ⟨hb, q⟩ := ae_bif q
  simp only [Bool.and_eq_true] at hb
  obtain ⟨⟨⟨⟨⟨⟨⟨⟨⟨⟨⟨⟨⟨⟨⟨⟨⟨⟨⟨⟨b1, b2⟩, b3⟩, b4⟩, b5⟩, b6⟩, b7⟩, b8⟩, b9⟩, b10⟩, b11⟩, b12⟩, b13⟩, b14⟩, b15⟩, b16⟩, b17⟩, b18⟩, b19⟩, b20⟩, b21⟩ := hb
  obtain ⟨M, hM, q⟩ := Option.bind_eq_some_iff.mp q
  obtain ⟨M2, hM2, q⟩ := Option.map_eq_some_iff.mp q
  subst q
  obtain ⟨gf, gv⟩ := g1
  have F1 := S5.1
  rw [ht] at F1
  cases gf with
  | nil => exact absurd F1 id
  | cons c cs =>
    obtain ⟨d, y, pc, lw, sw⟩ := c
    obtain ⟨⟨q1, q2, q3, q4, q5⟩, q6⟩ := F1
    have q1 : f.1 ≤ d := q1
    have q2 : f.2.1 = y := q2
    have q3 : f.2.2.1 = pc := q3
    have q5 : ae_sr z.k.1 ρ f.2.2.2.2 sw := q5
    rw [hst] at q5
    obtain ⟨v1, t1, rfl, o1, u1⟩ := ae_sr1 q5
    obtain ⟨v2, t2, rfl, o2, u2⟩ := ae_sr1 u1
    obtain ⟨v3, t3, rfl, o3, u3⟩ := ae_sr1 u2
    obtain ⟨v4, t4, rfl, o4, u4⟩ := ae_sr1 u3
    obtain ⟨v5, t5, rfl, o5, u5⟩ := ae_sr1 u4
    obtain ⟨n, rfl, d1⟩ := ae_ok0 o1 b2
    obtain ⟨dp, rfl, d2⟩ := ae_ok0 o2 b3
    obtain rfl := ae_ok2 o3 b4
    obtain ⟨sp, rfl, d4⟩ := ae_ok0 o4 b5
    obtain rfl := ae_ok2 o5 b6
    have est := ab_nl_ok b16
    subst est
    cases t5 with
    | cons _ _ => exact absurd u5 id
    | nil =>
    obtain ⟨w', b', hc⟩ := rb_isac_ok b1
    rw [q2, q3] at hc
    have rg1 := ae_rg_ok S1 b13
    have rg2 := ae_rg_ok S1 b14
    have rg3 := ae_rg_ok S1 b15
    rw [d1.2] at rg1
    rw [d2.2] at rg2
    rw [d4.2] at rg3
    have el : (ae_sh U.2.1).2.2 = (ae_sh T.2.1).2.2 := Nat.eq_of_beq_eq_true b11
    have eN : rb_len2 T.2.1 = (ae_sh T.2.1).2.2 := rfl
    obtain ⟨H1, D1⟩ := ae_vd_ok hf S1 S4 hM
    have kM := ae_hk_of hf (fun e => e) H1 D1
    have kA : ae_hk false L xs h1 := aq_own_hk false kM S7 S8.1.1
    have kB : ae_hk false L xs h2 := aq_own_hk true (by rw [ap_mX_not]; exact kM) S8 S7.1.1
    obtain ⟨ef, h1', m3, ha, cp⟩ := rb_acp (L := L) (xs := xs) (pc := pc) (lw := lw) (sw := []) (n := n) (dp := dp) (sp := sp) S7.1 b8 b7 el (by omega) (by omega) (by omega)
    have bA := b8
    unfold ae_isA at bA
    simp only [Bool.and_eq_true] at bA
    have bD := b7
    unfold ae_isA at bD
    simp only [Bool.and_eq_true] at bD
    have hD0 := Nat.blt_eq.mp bD.1.1.1
    have hDn := Nat.le_of_ble_eq_true bD.1.1.2
    have kA' : ae_hk false L xs h1' := ae_cp_hk (Or.inr ⟨Nat.blt_eq.mp bA.1.1.1, Nat.le_of_ble_eq_true bA.1.1.2, by omega⟩) b20 b21 kA cp
    have kM' := aq_mixhk kA' kB
    obtain ⟨C1, C2⟩ := rb_cpm (s := false) (hx := h2) S7.1 S8.1 b10 b9 cp
    have F : ae_fr [(T.2.1, 0, (rb_len2 T.2.1 : Int) - 1)] L xs (am_mX2 ap_b false h1 h2) (am_mX2 ap_b false h1' h2) := rb_cpfr (src := U.2.1) (so := 0) C2 (by omega) (by omega)
    have FR : ae_fr R L xs (am_mX2 ap_b false h1 h2) (am_mX2 ap_b false h1' h2) := fun p j hp => F p j (ae_sub2_ok b18 hp)
    have H2 : ae_hp false z.k.1 ρ L xs M2 (am_mX2 ap_b false h1' h2) := ae_kept_ok hf (cx := false) (fun h => by cases h) S1 H1 kM' F hM2
    have sm : ap_sm L xs false h1 h1' := fun p' j' hs' => ae_cpd_no cp (Or.inl (fun h => by rw [h, b9] at hs'; cases hs'))
    have H3 : ae_hp false z.k.1 ρ L xs (M.filterMap (rb_tr U.2.1 T.2.1) ++ M2) (am_mX2 ap_b false h1' h2) := by
      refine ae_hp_add H2 (fun m hm => ?_)
      obtain ⟨e, he, hm⟩ := List.mem_filterMap.mp hm
      obtain ⟨hc, hm⟩ := ae_bif hm
      cases hm
      rw [Bool.and_eq_true] at hc
      obtain ⟨j, v, n1, n2, n3⟩ := H1.2.1 e he
      rw [Nat.eq_of_beq_eq_true hc.1] at n2
      refine ⟨j, v, n1, ?_, n3⟩
      have lt : j < rb_len2 T.2.1 := by
        obtain ⟨i0, c0, p1, p2, p3, p4, -, -⟩ := ae_arr S4.1 b8
        obtain ⟨f0, rfl⟩ := p4 (by decide)
        have n2' := n2
        rw [p1] at n2'
        have n2' : ((am_mX2 ap_b false h1 h2)[i0]?.bind fun e => ae_ec e j) = some v := n2'
        rw [p3] at n2'
        have n2' : (bif Nat.blt j (ae_sh U.2.1).2.2 then some (Value.int (f0 j)) else none) = some v := n2'
        obtain ⟨hb, -⟩ := ae_bif n2'
        have := Nat.blt_eq.mp hb
        omega
      have c1 := C1 j lt
      simp only [Nat.zero_add] at c1
      show ae_cell L xs (am_mX2 ap_b false h1' h2) T.2.1 j = some v
      rw [c1]; exact n2
    have hin : ae_inm z.w T.2.1 0 = false := by
      cases hh : ae_inm z.w T.2.1 0 with
      | false => rfl
      | true => rw [hh] at b19; cases b19
    refine ⟨_, List.mem_singleton.mpr rfl, ρ, ((d, y, pc + 3, lw, []) :: cs, none), g2, h1', h2, ⟨Nat.le_refl _, ae_ag_rf _ _, S1⟩, ⟨S1, S2, H3, ⟨⟨⟨q1, q2, by show f.2.2.1 + 3 = pc + 3; rw [q3], q4, trivial⟩, q6⟩, fun e => by cases e⟩, S6, ap_hs_sm S7 sm cp.1, S8, hG _ _ S9 FR, rb_old hD0 S4.1 kM'.1 hDn C1 C2 S10 (fun h0 hF => rb_l0 hD0 hDn S4.1 (Nat.blt_eq.mp b12) hin hF)⟩, fun e => ap_end_1 (fun p j hp => FR p j (ae_sub2_ok hmo hp)) sm (fun x hx => ?_) e⟩
    exact am_fn2 (z := (pc + 3, lw, [], ef)) hc rfl rfl rfl (Nat.ble_eq_true_of_le (Nat.le_trans (Nat.le_of_ble_eq_true b17) q1)) rfl m3 ha hx
end RBF

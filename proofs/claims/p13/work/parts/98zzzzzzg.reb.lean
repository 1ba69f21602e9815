/-! Stores that ties allow: the walk's base goes along -/
noncomputable def rb_set (h0 h : List am_E) (p : Nat) : List am_E := match h[p - 1]? with
  | some e => h0.set (p - 1) e
  | none => h0
section RBA
variable {L : Nat} {xs : Nat → Int32} {h0 h : List am_E} {p : Nat}
theorem rb_len (hp : 0 < p) {j : Nat} {v : Value} (q : ae_cell L xs h0 p j = some v) : p - 1 < h0.length := by
  cases p with
  | zero => omega
  | succ k =>
    obtain ⟨e, h1, -⟩ := Option.bind_eq_some_iff.mp (show (h0[k]?.bind fun e => ae_ec e j) = some v from q)
    exact (List.getElem?_eq_some_iff.mp h1).1
theorem rb_at (hp : 0 < p) (l0 : p - 1 < h0.length) (l1 : p - 1 < h.length) (j : Nat) : ae_cell L xs (rb_set h0 h p) p j = ae_cell L xs h p j := by
  cases p with
  | zero => omega
  | succ k =>
    have l1 : k < h.length := l1
    have l0 : k < h0.length := l0
    have e : h[k]? = some h[k] := List.getElem?_eq_getElem l1
    show ((rb_set h0 h (k + 1))[k]?.bind fun e => ae_ec e j) = (h[k]?.bind fun e => ae_ec e j)
    have r : rb_set h0 h (k + 1) = h0.set k h[k] := by
      unfold rb_set
      show (match h[k]? with
        | some e => h0.set k e
        | none => h0) = _
      rw [e]
    rw [r, List.getElem?_set_self l0, e]
theorem rb_ne (hp : 0 < p) {q : Nat} (hq : q ≠ p) (j : Nat) : ae_cell L xs (rb_set h0 h p) q j = ae_cell L xs h0 q j := by
  cases q with
  | zero => rfl
  | succ m =>
    show ((rb_set h0 h p)[m]?.bind fun e => ae_ec e j) = (h0[m]?.bind fun e => ae_ec e j)
    have : (rb_set h0 h p)[m]? = h0[m]? := by
      unfold rb_set
      split
      · rw [List.getElem?_set_ne (by omega)]
      · rfl
    rw [this]
end RBA
/-- which of a tie's indices is at a cell: unknown; none; this one -/
noncomputable def rb_in (k : ae_K) (n b s : Nat) (e : ae_X) : Option (Option ae_X) :=
  bif Nat.beq s 0 then (bif ae_z k (ae_pls e (1 - (b : Int))) || ae_z k (ae_neg e ((b : Int) + 1)) then some none else none)
  else bif ae_z k (ae_pls e (1 - (b : Int))) || ae_z k (ae_neg e (((b + s * (n - 1) : Nat) : Int) + 1)) then some none
  else match ab_dv s (ae_pls e (-(b : Int))) with
    | some i => some (some i)
    | none => bif !(ae_ie ((e.1 - (b : Int)) % (s : Int)) 0) && e.2.all (fun t => ae_ie (t.2 % (s : Int)) 0) then some none else none
noncomputable def rb_gz (k : ae_K) (O : List ae_M) (i : ae_X) (g : ab_Gd) : Bool := match ab_os k O i g.2.2 with
  | some y => ae_z k (ae_pls (ae_add (ae_scl g.2.1 i) y) g.1)
  | none => false
noncomputable def rb_ev (k : ae_K) (O : List ae_M) (t : ab_Ti) (i : ae_X) : Bool := t.2.2.2.2.1.any (rb_gz k O i) || (match ab_ov k O t.1 (ab_at i t.2.1 t.st) with
  | some x => (match ab_os k O i t.2.2.2.1.2 with
    | some y => ae_rg k (ae_sub x y) t.2.2.2.1.1 t.2.2.2.1.1
    | none => false)
  | none => false)
noncomputable def rb_tt (p : Nat) (l : List ab_Tt) : List (Nat × Nat) := (l.filter fun q => Nat.beq q.2.1 p).map fun q => (q.2.2.1, q.2.2.2)
noncomputable def rb_cs (p : Nat) (t : ab_Ti) : List (Nat × Nat) := (bif Nat.beq t.1 p then [(t.2.1, t.st)] else []) ++ (rb_tt p t.2.2.2.1.2 ++ t.2.2.2.2.1.flatMap fun g => rb_tt p g.2.2)
noncomputable def rb_ok1 (k : ae_K) (O : List ae_M) (p : Nat) (e : ae_X) (t : ab_Ti) : Bool := (rb_cs p t).all fun q => match rb_in k t.2.2.1 q.1 q.2 e with
  | some none => true
  | some (some i) => rb_ev k O t i
  | none => false
section RBB
variable {L : Nat} {xs : Nat → Int32} {ρ : Nat → Int} {k : ae_K} {O : List ae_M} {h0 h' : List am_E}
theorem rb_in_ok (hK : ae_okK ρ k) {n b s i j : Nat} {e : ae_X} {r : Option ae_X} (de : ae_dn k.1 ρ e (j : Int)) (hi : i < n) (hj : b + s * i = j) (q : rb_in k n b s e = some r) : ∃ ie, r = some ie ∧ ae_dn k.1 ρ ie (i : Int) := by
  unfold rb_in at q
  have ev := de.2
  cases hs : Nat.beq s 0 with
  | true =>
    rw [hs] at q
    have h0 := Nat.eq_of_beq_eq_true hs
    subst h0
    obtain ⟨hb, -⟩ := ae_bif (show (bif _ then some (none : Option ae_X) else none) = some r from q)
    rcases Bool.or_eq_true_iff.mp hb with hb | hb
    · have z := ae_z_ok hK hb
      rw [(ae_pls_dn de _).2] at z
      omega
    · have z := ae_z_ok hK hb
      rw [(ae_neg_dn de _).2] at z
      omega
  | false =>
    rw [hs] at q
    have s0 : 0 < s := by
      cases s with
      | zero => cases hs
      | succ s => exact Nat.succ_pos s
    have q : (bif ae_z k (ae_pls e (1 - (b : Int))) || ae_z k (ae_neg e (((b + s * (n - 1) : Nat) : Int) + 1)) then some none
      else match ab_dv s (ae_pls e (-(b : Int))) with
        | some i => some (some i)
        | none => bif !(ae_ie ((e.1 - (b : Int)) % (s : Int)) 0) && e.2.all (fun t => ae_ie (t.2 % (s : Int)) 0) then some none else none) = some r := q
    cases hz : ae_z k (ae_pls e (1 - (b : Int))) || ae_z k (ae_neg e (((b + s * (n - 1) : Nat) : Int) + 1)) with
    | true =>
      have hle : s * i ≤ s * (n - 1) := Nat.mul_le_mul_left _ (by omega)
      rcases Bool.or_eq_true_iff.mp hz with hb | hb
      · have z := ae_z_ok hK hb
        rw [(ae_pls_dn de _).2] at z
        omega
      · have z := ae_z_ok hK hb
        rw [(ae_neg_dn de _).2] at z
        omega
    | false =>
      rw [hz] at q
      have d2 := ae_pls_dn de (-(b : Int))
      have q : (match ab_dv s (ae_pls e (-(b : Int))) with
        | some i => some (some i)
        | none => bif !(ae_ie ((e.1 - (b : Int)) % (s : Int)) 0) && e.2.all (fun t => ae_ie (t.2 % (s : Int)) 0) then some none else none) = some r := q
      split at q
      · rename_i ie hv
        cases q
        obtain ⟨y, dy, ey⟩ := ab_dv_dn d2 hv
        have e1 : (s : Int) * y = (s : Int) * (i : Int) := by
          have : ((s * i : Nat) : Int) = (s : Int) * (i : Int) := Int.natCast_mul s i
          omega
        have e2 : y = (i : Int) := Int.eq_of_mul_eq_mul_left (by omega) e1
        exact ⟨ie, rfl, by rw [← e2]; exact dy⟩
      · obtain ⟨hb, -⟩ := ae_bif q
        rw [Bool.and_eq_true] at hb
        obtain ⟨m1, -⟩ := ab_dv_et (ρ := ρ) s0 hb.2
        have hv : e.1 + ae_et ρ e.2 = (j : Int) := ev
        have e1 : e.1 - (b : Int) = (s : Int) * ((i : Int) - ae_et ρ (e.2.map fun t => (t.1, t.2 / (s : Int)))) := by
          have : ((s * i : Nat) : Int) = (s : Int) * (i : Int) := Int.natCast_mul s i
          rw [Int.mul_sub, m1]
          omega
        have hb1 := hb.1
        rw [e1, Int.mul_emod_right] at hb1
        exact absurd hb1 (by decide)
theorem rb_ev_ok (hK : ae_okK ρ k) (hO : ∀ m ∈ O, ae_eo k.1 ρ L xs h' m) {t : ab_Ti} {i : ae_X} {i0 : Nat} (hi : ae_dn k.1 ρ i (i0 : Int)) (q : rb_ev k O t i = true) : ab_hold (ab_cv L xs h') t i0 := by
  unfold rb_ev at q
  rcases Bool.or_eq_true_iff.mp q with q | q
  · obtain ⟨g, hg, q⟩ := List.any_eq_true.mp q
    refine Or.inl ⟨g, hg, ?_⟩
    unfold rb_gz at q
    split at q
    · rename_i y hy
      have d := ab_os_ok hK hO hi hy
      have z := ae_z_ok hK q
      rw [(ae_pls_dn (ae_add_dn (ae_scl_dn hi g.2.1) d) g.1).2] at z
      unfold ab_gd
      omega
    · cases q
  · refine Or.inr ?_
    split at q
    · rename_i x hx
      split at q
      · rename_i y hy
        have d1 := ab_ov_ok hK hO (ab_at_dn hi) hx
        have d2 := ab_os_ok hK hO hi hy
        have r := ae_rg_ok hK q
        rw [ae_sub_ev, d1.2, d2.2] at r
        omega
      · cases q
    · cases q
theorem rb_tie (hK : ae_okK ρ k) {p j : Nat} {e : ae_X} (de : ae_dn k.1 ρ e (j : Int)) (hne : ∀ q i, ¬ (q = p ∧ i = j) → ab_cv L xs h' q i = ab_cv L xs h0 q i) (hO : ∀ m ∈ O, ae_eo k.1 ρ L xs h' m) {t : ab_Ti} (q : rb_ok1 k O p e t = true) {i : Nat} (hi : i < t.2.2.1) (hh : ab_hold (ab_cv L xs h0) t i) : ab_hold (ab_cv L xs h') t i := by
  by_cases hx : ∃ c ∈ rb_cs p t, c.1 + c.2 * i = j
  · obtain ⟨c, hc, hj⟩ := hx
    have q := List.all_eq_true.mp q c hc
    split at q
    · rename_i hr
      obtain ⟨ie, h1, -⟩ := rb_in_ok hK de hi hj hr
      cases h1
    · rename_i ie hr
      obtain ⟨ie', h1, h2⟩ := rb_in_ok hK de hi hj hr
      cases h1
      exact rb_ev_ok hK hO h2 q
    · cases q
  · have tt : ∀ {l : List ab_Tt}, (∀ c ∈ rb_tt p l, c ∈ rb_cs p t) → ab_sum (ab_cv L xs h') i l = ab_sum (ab_cv L xs h0) i l := fun {l} hl => ab_sum_eq fun u hu => hne _ _ fun ⟨a, b⟩ => hx ⟨(u.2.2.1, u.2.2.2), hl _ (List.mem_map.mpr ⟨u, List.mem_filter.mpr ⟨hu, by rw [a]; exact Nat.beq_refl p⟩, rfl⟩), b⟩
    rcases hh with ⟨g, hg, h1⟩ | h1
    · refine Or.inl ⟨g, hg, ?_⟩
      unfold ab_gd at h1 ⊢
      rw [tt (fun c hc => List.mem_append_right _ (List.mem_append_right _ (List.mem_flatMap.mpr ⟨g, hg, hc⟩)))]
      exact h1
    · refine Or.inr ?_
      rw [tt (fun c hc => List.mem_append_right _ (List.mem_append_left _ hc)), hne _ _ (fun ⟨a, b⟩ => hx ⟨(t.2.1, t.st), List.mem_append_left _ (by rw [a, Nat.beq_refl]; exact List.mem_singleton.mpr rfl), b⟩)]
      exact h1
end RBB
/-- an element of ints is written; nothing is said to be touched -/
noncomputable def rb_ia (f : ap_F) : Bool := match am_code f.2.1 f.2.2.1 with
  | some q => (match q.1 with
    | .iastore => true
    | _ => false)
  | none => false
noncomputable def rb_no (w : ae_Mo) (p : Nat) : Bool := w.all fun r => !(Nat.beq r.1 p)
noncomputable def rb_O (k : ae_K) (O : List ae_M) (p : Nat) (e : ae_X) (v : ae_V) : List ae_M := (p, e, v, false) :: O.filter (ae_kp k p e)
noncomputable def rb_th (z : ab_St) (a : Bool) (k : ae_K) (M O : List ae_M) (t : ap_T) : ab_St := bif a then (k, M, O, z.w, z.T, z.t1, t) else (k, M, O, z.w, z.T, t, z.t2)
noncomputable def rb_ss (a : Bool) (R : ae_Mo) (z : ab_St) : Option (List ab_St) := match (bif a then z.t2 else z.t1).1 with
  | f :: r => (match f.2.2.2.2 with
    | v :: i :: q :: s => bif rb_ia f && Nat.beq v.1 0 && Nat.beq i.1 0 && Nat.beq q.1 2 && ae_isA q.2.1 0 && am_sd ap_b a q.2.1 && ae_rg z.k i.2.2 0 (((ae_sh q.2.1).2.2 : Int) - 1) && rb_no z.w q.2.1 && z.T.all (rb_ok1 z.k (rb_O z.k z.o q.2.1 (ae_nr z.k i.2.2) v) q.2.1 (ae_nr z.k i.2.2)) then
        (ae_st false R z.k z.m q.2.1 i.2.2 v).map fun l => l.map fun y => rb_th z a y.1 y.2 (rb_O z.k z.o q.2.1 (ae_nr z.k i.2.2) v) ((f.1, f.2.1, f.2.2.1 + 1, f.2.2.2.1, s) :: r, none)
      else none
    | _ => none)
  | [] => none
/-! ties of the place alone, the ties by their name -/
theorem ai_bq {p q : Nat} (h : Nat.beq p q = false) : Nat.beq q p = false := by
  cases hx : Nat.beq q p with
  | false => rfl
  | true =>
    have e := Nat.eq_of_beq_eq_true hx
    subst e
    rw [Nat.beq_refl] at h
    cases h
theorem ai_tt0 {p : Nat} : ∀ {l : List ab_Tt}, ai_spl p l = false → rb_tt p l = []
  | [], _ => rfl
  | (c, q, b, s) :: r, h => by
    have h : (bif Nat.beq p q then true else ai_spl p r) = false := h
    cases hb : Nat.beq p q with
    | true => rw [hb] at h; cases h
    | false =>
      rw [hb] at h
      have ih := ai_tt0 (show ai_spl p r = false from h)
      unfold rb_tt at ih ⊢
      rw [List.filter_cons_of_neg (by show ¬ Nat.beq q p = true; rw [ai_bq hb]; exact Bool.false_ne_true)]
      exact ih
theorem ai_gg0 {p : Nat} : ∀ {l : List ab_Gd}, ai_spg p l = false → (l.flatMap fun g => rb_tt p g.2.2) = []
  | [], _ => rfl
  | (c, x, l) :: r, h => by
    have h : (bif ai_spl p l then true else ai_spg p r) = false := h
    cases hb : ai_spl p l with
    | true => rw [hb] at h; cases h
    | false =>
      rw [hb] at h
      rw [List.flatMap_cons, ai_gg0 (show ai_spg p r = false from h)]
      show rb_tt p l ++ [] = []
      rw [ai_tt0 hb]
      rfl
theorem ai_cs0 {p : Nat} {t : ab_Ti} (h : ai_spk p t = false) : rb_cs p t = [] := by
  obtain ⟨q, f, n, ⟨c, l⟩, gs, s⟩ := t
  have h : (bif Nat.beq p q then true else bif ai_spl p l then true else ai_spg p gs) = false := h
  cases h1 : Nat.beq p q with
  | true => rw [h1] at h; cases h
  | false =>
    rw [h1] at h
    have h : (bif ai_spl p l then true else ai_spg p gs) = false := h
    cases h2 : ai_spl p l with
    | true => rw [h2] at h; cases h
    | false =>
      rw [h2] at h
      show (bif Nat.beq q p then [(f, ab_Ti.st (q, f, n, (c, l), gs, s))] else []) ++ (rb_tt p l ++ gs.flatMap fun g => rb_tt p g.2.2) = []
      rw [ai_bq h1, ai_tt0 h2, ai_gg0 (show ai_spg p gs = false from h)]
      rfl
theorem ai_okby {k : ae_K} {O : List ae_M} {p : Nat} {e : ae_X} {T : List ab_Ti} : ai_all (rb_ok1 k O p e) (ai_by T p) = T.all (rb_ok1 k O p e) := by
  unfold ai_by
  rw [ai_all_e, ai_flt_e]
  refine af_all_f (fun t h => ?_)
  unfold rb_ok1
  rw [ai_cs0 h]
  rfl
noncomputable def ai_rss (a : Bool) (R : ae_Mo) (z : ab_St) : Option (List ab_St) := match z with
  | (k, M, O, w, T, t1, t2) => (match (bif a then t2 else t1).1 with
    | f :: r => (match f.2.2.2.2 with
      | v :: i :: q :: s => bif rb_ia f && Nat.beq v.1 0 && Nat.beq i.1 0 && Nat.beq q.1 2 && ae_isA q.2.1 0 && am_sd ap_b a q.2.1 && ae_rg k i.2.2 0 (((ae_sh q.2.1).2.2 : Int) - 1) && rb_no w q.2.1 && (af_pl q.2.1 fun p => ai_all (rb_ok1 k (rb_O k O p (ae_nr k i.2.2) v) p (ae_nr k i.2.2)) (ai_by T p)) then
          (ae_st false R k M q.2.1 i.2.2 v).map fun l => l.map fun y => bif a then (y.1, y.2, rb_O k O q.2.1 (ae_nr k i.2.2) v, w, T, t1, ((f.1, f.2.1, f.2.2.1 + 1, f.2.2.2.1, s) :: r, none)) else (y.1, y.2, rb_O k O q.2.1 (ae_nr k i.2.2) v, w, T, ((f.1, f.2.1, f.2.2.1 + 1, f.2.2.2.1, s) :: r, none), t2)
        else none
      | _ => none)
    | [] => none)
theorem ai_rss_e (a : Bool) (R : ae_Mo) (z : ab_St) : ai_rss a R z = rb_ss a R z := by
  obtain ⟨k, M, O, w, T, t1, t2⟩ := z
  unfold ai_rss
  simp only [af_pl_ok, ai_okby]
  rfl
section RBC
variable {L : Nat} {xs : Nat → Int32} {ρ : Nat → Int}
theorem rb_shp {s : Bool} {ho hx : List am_E} (q1 : ae_shp ho) (q2 : ae_shp hx) : ae_shp (am_mX2 ap_b s ho hx) := ⟨(am_mx_len (q1.1.trans q2.1.symm)).trans q1.1, fun k hk => by
  cases hs : am_sd ap_b s (k + 1) with
  | true =>
    have e : (am_mX2 ap_b s ho hx)[k]? = ho[k]? := ap_at q1.1 q2.1 hs
    rw [e]; exact q1.2 k hk
  | false =>
    have e : (am_mX2 ap_b s ho hx)[k]? = hx[k]? := ap_atx q1.1 q2.1 hs
    rw [e]; exact q2.2 k hk⟩
theorem rb_mix {s : Bool} {ho hx ho' : List am_E} {p j : Nat} {v : Value} (q1 : ae_shp ho) (q2 : ae_shp hx) (hs : am_sd ap_b s p = true) (W : ae_wr L xs ho ho' p j v) : ae_wr L xs (am_mX2 ap_b s ho hx) (am_mX2 ap_b s ho' hx) p j v := by
  refine ⟨rb_shp W.1 q2, by rw [ap_c W.1.1 q2.1 hs]; exact W.2.1, fun q i hne => ?_⟩
  cases hq : am_sd ap_b s q with
  | true => rw [ap_c W.1.1 q2.1 hq, ap_c q1.1 q2.1 hq]; exact W.2.2 q i hne
  | false => rw [ap_cx W.1.1 q2.1 hq, ap_cx q1.1 q2.1 hq]
theorem rb_no_ok {w : ae_Mo} {p j : Nat} (q : rb_no w p = true) : ae_inm w p j = false := by
  cases hin : ae_inm w p j with
  | false => rfl
  | true =>
    obtain ⟨r, hr, h3⟩ := List.any_eq_true.mp hin
    simp only [Bool.and_eq_true] at h3
    have h4 := List.all_eq_true.mp q r hr
    rw [h3.1.1] at h4
    cases h4
theorem rb_base {k : ae_K} {O : List ae_M} {w : ae_Mo} {T : List ab_Ti} {p j : Nat} {e : ae_X} {a : ae_V} {v : Value} {h h' : List am_E} (hK : ae_okK ρ k) (hp : 0 < p) (hpn : p ≤ ae_np) (hs : ae_shp h) (hj : j < (ae_sh p).2.2) (W : ae_wr L xs h h' p j v) (hv : ae_ok k.1 ρ a v) (de : ae_dn k.1 ρ e (j : Int)) (hw : rb_no w p = true) (old : ab_old k.1 ρ L xs O w T h) (q : T.all (rb_ok1 k (rb_O k O p e a) p e) = true) : ab_old k.1 ρ L xs (rb_O k O p e a) w T h' := by
  obtain ⟨h0, r1, r2, r3⟩ := old
  have pe : ∀ i, ae_cell L xs h p i = ae_cell L xs h0 p i := fun i => r2 p i (rb_no_ok hw)
  obtain ⟨c, hc⟩ := ae_cell_ex (L := L) (xs := xs) hs hp hpn hj
  have l0 : p - 1 < h0.length := rb_len hp (by rw [← pe j]; exact hc)
  have l1 : p - 1 < h'.length := by rw [W.1.1]; omega
  have at' : ∀ i, ae_cell L xs (rb_set h0 h' p) p i = ae_cell L xs h' p i := rb_at hp l0 l1
  have ne' : ∀ q i, q ≠ p → ae_cell L xs (rb_set h0 h' p) q i = ae_cell L xs h0 q i := fun q i hq => rb_ne hp hq i
  have ats : ∀ i, i ≠ j → ae_cell L xs (rb_set h0 h' p) p i = ae_cell L xs h0 p i := fun i hi => by rw [at' i, W.2.2 p i (fun h => hi h.2), pe i]
  have hO : ∀ m ∈ rb_O k O p e a, ae_eo k.1 ρ L xs (rb_set h0 h' p) m := by
    intro m hm
    rcases List.mem_cons.mp hm with rfl | hm
    · exact ⟨j, v, de, by rw [at']; exact W.2.1, hv⟩
    · obtain ⟨m1, m2⟩ := List.mem_filter.mp hm
      obtain ⟨i, x, d, c1, o1⟩ := r3 m m1
      refine ⟨i, x, d, ?_, o1⟩
      by_cases hq : m.1 = p
      · have hi : i ≠ j := fun hij => by
          unfold ae_kp at m2
          rw [hq, Nat.beq_refl] at m2
          exact ae_ds_ok hK m2 (by rw [d.2, de.2, hij])
        rw [hq] at c1 ⊢
        rw [ats i hi]; exact c1
      · rw [ne' _ _ hq]; exact c1
  refine ⟨rb_set h0 h' p, fun t ht i hi => rb_tie hK de (fun q i hne => ?_) hO (List.all_eq_true.mp q t ht) hi (r1 t ht i hi), fun q i hin => ?_, hO⟩
  · show ab_vz (ae_cell L xs (rb_set h0 h' p) q i) = ab_vz (ae_cell L xs h0 q i)
    by_cases hq : q = p
    · subst hq; rw [ats i (fun h => hne ⟨rfl, h⟩)]
    · rw [ne' _ _ hq]
  · by_cases hq : q = p
    · subst hq; exact (at' i).symm
    · rw [ne' _ _ hq, W.2.2 q i (fun h => hq h.1)]
      exact r2 q i hin
theorem rb_ia_ok {f : ap_F} (q : rb_ia f = true) : ∃ a b, am_code f.2.1 f.2.2.1 = some (.iastore, a, b) := by
  unfold rb_ia at q
  split at q
  · rename_i c hc
    obtain ⟨i, a, b⟩ := c
    split at q
    · rename_i hi
      have hi : i = .iastore := hi
      subst hi
      exact ⟨a, b, hc⟩
    · cases q
  · cases q
/-- one thread's own step -/
theorem rb_step {s : Bool} {k : ae_K} {R : ae_Mo} {M O : List ae_M} {w : ae_Mo} {T : List ab_Ti} {t : ap_T} {g : ap_cT} {ho hx : List am_E} {f : ap_F} {r : List ap_F} {v i q : ae_V} {st : List ae_V} {l : List (ae_K × List ae_M)} (hr : ae_rok = true) (hf : ae_fok = true) (S1 : ae_okK ρ k) (S4 : ae_hp false k.1 ρ L xs M (am_mX2 ap_b s ho hx)) (S5 : ap_tt k.1 ρ t g) (S7 : ap_hs L xs s ho) (l2 : ae_shp hx) (old : ab_old k.1 ρ L xs O w T (am_mX2 ap_b s ho hx)) (ht : t.1 = f :: r) (hst : f.2.2.2.2 = v :: i :: q :: st)
    (b1 : rb_ia f = true) (b2 : Nat.beq v.1 0 = true) (b3 : Nat.beq i.1 0 = true) (b4 : Nat.beq q.1 2 = true) (b5 : ae_isA q.2.1 0 = true) (b6 : am_sd ap_b s q.2.1 = true) (b7 : ae_rg k i.2.2 0 (((ae_sh q.2.1).2.2 : Int) - 1) = true) (b8 : rb_no w q.2.1 = true) (b9 : T.all (rb_ok1 k (rb_O k O q.2.1 (ae_nr k i.2.2) v) q.2.1 (ae_nr k i.2.2)) = true) (hq : ae_st false R k M q.2.1 i.2.2 v = some l) :
    ∃ y ∈ l, ∃ ρ' g' ho', ae_up2 ρ k ρ' y.1 ∧ ae_hp false y.1.1 ρ' L xs y.2 (am_mX2 ap_b s ho' hx) ∧ ap_tt y.1.1 ρ' ((f.1, f.2.1, f.2.2.1 + 1, f.2.2.2.1, st) :: r, none) g' ∧ ap_hs L xs s ho' ∧ ap_sm L xs s ho ho' ∧ ae_fr R L xs (am_mX2 ap_b s ho hx) (am_mX2 ap_b s ho' hx) ∧ ab_old y.1.1 ρ' L xs (rb_O k O q.2.1 (ae_nr k i.2.2) v) w T (am_mX2 ap_b s ho' hx) ∧ ∀ x, ap_run L xs g' ho' x → ap_run L xs g ho x := by
  obtain ⟨gf, gv⟩ := g
  have F1 := S5.1
  rw [ht] at F1
  cases gf with
  | nil => exact absurd F1 id
  | cons c cs =>
    obtain ⟨d, y, pc, lw, sw⟩ := c
    obtain ⟨⟨q1, q2, q3, q4, q5⟩, q6⟩ := F1
    have q2 : f.2.1 = y := q2
    have q3 : f.2.2.1 = pc := q3
    have q5 : ae_sr k.1 ρ f.2.2.2.2 sw := q5
    rw [hst] at q5
    obtain ⟨V, t1, rfl, o1, u1⟩ := ae_sr1 q5
    obtain ⟨I, t2, rfl, o2, u2⟩ := ae_sr1 u1
    obtain ⟨P, t3, rfl, o3, u3⟩ := ae_sr1 u2
    obtain ⟨vy, rfl, dv⟩ := ae_ok0 o1 b2
    obtain ⟨x, rfl, dx⟩ := ae_ok0 o2 b3
    obtain rfl := ae_ok2 o3 b4
    obtain ⟨a', b', hc⟩ := rb_ia_ok b1
    rw [q2, q3] at hc
    have rg := ae_rg_ok S1 b7
    rw [dx.2] at rg
    have hx0 : x.toInt = ((x.toInt.toNat : Nat) : Int) := by omega
    have hj : x.toInt.toNat < (ae_sh q.2.1).2.2 := by omega
    have de : ae_dn k.1 ρ i.2.2 ((x.toInt.toNat : Nat) : Int) := by rw [← hx0]; exact dx
    obtain ⟨ho', W, run⟩ := ag_st (L := L) (xs := xs) (d := d) (lw := lw) (sw := t3) (v := vy) hc S7.1 b5 hx0 hj
    have bA := b5
    unfold ae_isA at bA
    simp only [Bool.and_eq_true] at bA
    have hp := Nat.blt_eq.mp bA.1.1.1
    have hpn := Nat.le_of_ble_eq_true bA.1.1.2
    have Wm := rb_mix (hx := hx) S7.1 l2 b6 W
    obtain ⟨z, m, ρ', u, H', F'⟩ := ae_st_ok hr hf S1 S4 de Wm o1 hq
    have sm : ap_sm L xs s ho ho' := fun p' j' hs' => W.2.2 p' j' (fun h => by rw [h.1, b6] at hs'; cases hs')
    refine ⟨z, m, ρ', ((d, y, pc + 1, lw, t3) :: cs, none), ho', u, H', ⟨⟨⟨q1, q2, by show f.2.2.1 + 1 = pc + 1; rw [q3], ae_lr_ext u.1 u.2.1 q4, ae_sr_ext u.1 u.2.1 u3⟩, ap_ff_ext u.1 u.2.1 q6⟩, fun e => by cases e⟩, ap_hs_sm S7 sm W.1, sm, F', ab_old_ext u.1 u.2.1 (rb_base S1 hp hpn S4.1 hj Wm o1 (ae_nr_dn S1 de) b8 old b9), fun x' hx' => ?_⟩
    exact am_fn_of (f' := (d, y, pc + 1, lw, t3)) (h' := ho') (fun n r hg => ⟨n + 1, run n r hg⟩) hx'
theorem rb_ss_ok {mo R : ae_Mo} {G : List am_E → Prop} {Q : Option Value → Option Value → List am_E → List am_E → Prop} {Rr : Nat} {r0 : Nat → Int} {a : Bool} (hr : ae_rok = true) (hf : ae_fok = true) (hG : ∀ h h', G h → ae_fr R L xs h h' → G h') (hmo : ae_sub2 R mo = true) : bh_ok mo G L xs Q Rr r0 (rb_ss a R) := by
  intro z o ρ g1 g2 h1 h2 q S s1 s2
  obtain ⟨S1, S2, S4, S5, S6, S7, S8, S9, S10⟩ := S
  unfold rb_ss at q
  split at q <;> try (cases q; done)
  rename_i f r ht
  split at q <;> try (cases q; done)
  rename_i v i p st hst
  obtain ⟨hb, q⟩ := ae_bif q
  simp only [Bool.and_eq_true] at hb
  obtain ⟨⟨⟨⟨⟨⟨⟨⟨b1, b2⟩, b3⟩, b4⟩, b5⟩, b6⟩, b7⟩, b8⟩, b9⟩ := hb
  cases hl : ae_st false R z.k z.m p.2.1 i.2.2 v with
  | none => rw [hl] at q; cases q
  | some l =>
    rw [hl] at q
    cases q
    have frm : ∀ {h h' : List am_E}, ae_fr R L xs h h' → ae_fr mo L xs h h' := fun f' p j hp => f' p j (ae_sub2_ok hmo hp)
    cases a with
    | false =>
      obtain ⟨y, m, ρ', g', ho', u, H, T1, O1, sm, F, old, run⟩ := rb_step hr hf S1 S4 S5 S7 S8.1 S10 ht hst b1 b2 b3 b4 b5 b6 b7 b8 b9 hl
      have F : ae_fr R L xs (am_mX2 ap_b false h1 h2) (am_mX2 ap_b false ho' h2) := F
      exact ⟨_, List.mem_map.mpr ⟨y, m, rfl⟩, ρ', g', g2, ho', h2, u, ⟨u.2.2, ae_k0_up S2 u, H, T1, ap_tt_ext u.1 u.2.1 S6, O1, S8, hG _ _ S9 F, old⟩, fun e => ap_end_1 (frm F) sm run e⟩
    | true =>
      have S4' : ae_hp false z.k.1 ρ L xs z.m (am_mX2 ap_b true h2 h1) := by rw [ap_mX_not]; exact S4
      have S10' : ab_old z.k.1 ρ L xs z.o z.w z.T (am_mX2 ap_b true h2 h1) := by rw [ap_mX_not]; exact S10
      obtain ⟨y, m, ρ', g', ho', u, H, T1, O1, sm, F, old, run⟩ := rb_step hr hf S1 S4' S6 S8 S7.1 S10' ht hst b1 b2 b3 b4 b5 b6 b7 b8 b9 hl
      rw [ap_mX_not] at H old
      rw [ap_mX_not ap_b true, ap_mX_not ap_b true] at F
      have F : ae_fr R L xs (am_mX2 ap_b false h1 h2) (am_mX2 ap_b false h1 ho') := F
      exact ⟨_, List.mem_map.mpr ⟨y, m, rfl⟩, ρ', g1, g', h1, ho', u, ⟨u.2.2, ae_k0_up S2 u, H, ap_tt_ext u.1 u.2.1 S5, T1, S7, O1, hG _ _ S9 F, old⟩, fun e => ap_end_2 (frm F) sm run e⟩
end RBC

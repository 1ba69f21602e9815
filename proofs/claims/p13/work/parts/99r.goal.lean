/-! What the makers leave keeps the invariant; the law then ends with 1 -/
theorem rm_hp_at {xs : Nat → Int32} : ∀ {s : List rm_E} {t : List am_E} {k : Nat} {e : rm_E}, rm_hp xs s t → s[k]? = some e → ∃ e', t[k]? = some e' ∧ rm_cell xs e e'
  | [], _, _, _, _, h => by cases h
  | a :: s, [], _, _, q, _ => absurd q id
  | a :: s, v :: t, 0, e, q, h => by cases h; exact ⟨v, rfl, q.1⟩
  | a :: s, v :: t, k + 1, e, q, h => rm_hp_at (s := s) (t := t) (k := k) q.2 h
theorem rm_hp_ln {xs : Nat → Int32} : ∀ {s : List rm_E} {t : List am_E}, rm_hp xs s t → t.length = s.length
  | [], [], _ => rfl
  | _ :: s, _ :: t, q => by rw [List.length_cons, List.length_cons, rm_hp_ln q.2]
  | [], _ :: _, q => absurd q id
  | _ :: _, [], q => absurd q id
noncomputable def rm_gV (e : rm_E) (j : Nat) : rm_V := match e with
  | .inl x => rm_ov x.1 x.2.2 j
  | .inr o => (o.2[j]?).getD (9, 0, 0)
noncomputable def rm_shc (s : Nat × Nat × Nat) (e : rm_E) : Bool := match e with
  | .inl x => Nat.beq s.1 1 && Nat.beq x.1 s.2.1 && Nat.beq x.2.1 s.2.2
  | .inr o => Nat.beq s.1 0 && Nat.beq o.1 s.2.1 && Nat.beq o.2.length s.2.2
noncomputable def rm_vc (i : ae_I) (a : rm_V) : Bool := match a.1 with
  | 0 => Nat.beq i.1 0 && ae_le i.2.1 (nI a.2.1).toInt && ae_le (nI a.2.1).toInt i.2.2
  | 3 => Nat.beq i.1 1 && ae_le i.2.1 (lN a.2.1).toInt && ae_le (lN a.2.1).toInt i.2.2
  | 5 => Nat.beq i.1 2 && Nat.beq i.2.1.toNat a.2.1
  | 6 => Nat.beq i.1 3
  | _ => false
theorem rm_vc_ok {xs : Nat → Int32} {i : ae_I} {a : rm_V} {v : Value} (h : rm_ok xs a v) (q : rm_vc i a = true) : ae_io i v := by
  obtain ⟨t, n, m⟩ := a
  unfold rm_ok at h
  unfold rm_vc at q
  match t, h, q with
  | 0, h, q =>
    simp only [Bool.and_eq_true] at q
    unfold ae_io
    rw [Nat.eq_of_beq_eq_true q.1.1]
    exact ⟨_, h, ae_le_iff.mp q.1.2, ae_le_iff.mp q.2⟩
  | 3, h, q =>
    simp only [Bool.and_eq_true] at q
    unfold ae_io
    rw [Nat.eq_of_beq_eq_true q.1.1]
    exact ⟨_, h, ae_le_iff.mp q.1.2, ae_le_iff.mp q.2⟩
  | 5, h, q =>
    simp only [Bool.and_eq_true] at q
    unfold ae_io
    rw [Nat.eq_of_beq_eq_true q.1]
    have e := Nat.eq_of_beq_eq_true q.2
    show v = .ref i.2.1.toNat
    rw [e]; exact h
  | 6, h, q =>
    unfold ae_io
    rw [Nat.eq_of_beq_eq_true q]
    exact h
  | 1, _, q => cases q
  | 2, _, q => cases q
  | 4, _, q => cases q
  | n + 7, _, q => cases q
noncomputable def rm_hkc : Bool := Nat.beq rm_h0.length ae_np && (List.range ae_np).all fun k => match rm_h0[k]? with
  | some e => rm_shc (ae_sh (k + 1)) e && (List.range (ae_sh (k + 1)).2.2).all fun j => rm_vc (ae_iv (k + 1) j) (rm_gV e j)
  | none => false
noncomputable def rm_zv (p j : Nat) : Option Int := match p with
  | 0 => none
  | k + 1 => match rm_h0[k]? with
    | some e => bif Nat.blt j (ae_sh (k + 1)).2.2 && Nat.beq (rm_gV e j).1 0 then some (nI (rm_gV e j).2.1).toInt else none
    | none => none
noncomputable def rm_lz (p b : Nat) : List (Nat × Int) → Option Int
  | [] => some 0
  | t :: r => (rm_zv p (b + t.1)).bind fun x => (rm_lz p b r).bind fun y => some (t.2 * x + y)
noncomputable def rm_fc : Bool := ae_fam.all fun f => (List.range f.2.2.2.1).all fun i => f.2.2.2.2.2.any fun l => match rm_lz f.1 (f.2.1 + f.2.2.1 * i) l.2 with
  | some x => ae_le (l.1 + x) 0
  | none => false
set_option maxRecDepth 1000000 in
theorem rm_hkc_ok : rm_hkc = true := by decide +kernel
set_option maxRecDepth 1000000 in
theorem rm_fc_ok : rm_fc = true := by decide +kernel
theorem rm_hk {L : Nat} {xs : Nat → Int32} {h0 : List am_E} (hh : rm_hp xs rm_h0 h0) : ae_hk false L xs h0 ∧ ∀ p j x, rm_zv p j = some x → ae_iz (ae_cell L xs h0 p j) = x := by
  have hc := rm_hkc_ok
  unfold rm_hkc at hc
  rw [Bool.and_eq_true] at hc
  obtain ⟨hc1, hc2⟩ := hc
  have hc1 := Nat.eq_of_beq_eq_true hc1
  have at_ : ∀ k, k < ae_np → ∃ e e', rm_h0[k]? = some e ∧ h0[k]? = some e' ∧ rm_cell xs e e' ∧ rm_shc (ae_sh (k + 1)) e = true ∧ ∀ j, j < (ae_sh (k + 1)).2.2 → rm_vc (ae_iv (k + 1) j) (rm_gV e j) = true := by
    intro k hk
    have h1 := List.all_eq_true.mp hc2 k (List.mem_range.mpr hk)
    split at h1
    · rename_i e he
      rw [Bool.and_eq_true] at h1
      obtain ⟨e', g1, g2⟩ := rm_hp_at hh he
      exact ⟨e, e', he, g1, g2, h1.1, fun j hj => List.all_eq_true.mp h1.2 j (List.mem_range.mpr hj)⟩
    · cases h1
  have shp : ∀ k e e', rm_cell xs e e' → rm_shc (ae_sh (k + 1)) e = true → ae_f1 (ae_sh (k + 1)) e' := by
    intro k e e' h1 h2
    cases e with
    | inl x => cases e' with
      | inl z =>
        unfold rm_shc at h2
        simp only [Bool.and_eq_true] at h2
        obtain ⟨g1, g2, g3, -⟩ := h1
        exact ⟨Nat.eq_of_beq_eq_true h2.1.1, by rw [← g1]; exact Nat.eq_of_beq_eq_true h2.1.2, by rw [← g2]; exact Nat.eq_of_beq_eq_true h2.2, g3.1, g3.2.1, g3.2.2⟩
      | inr z => exact absurd h1 id
    | inr x => cases e' with
      | inl z => exact absurd h1 id
      | inr z =>
        unfold rm_shc at h2
        simp only [Bool.and_eq_true] at h2
        exact ⟨Nat.eq_of_beq_eq_true h2.1.1, by rw [← h1.1]; exact Nat.eq_of_beq_eq_true h2.1.2, by rw [← rm_all_len h1.2]; exact Nat.eq_of_beq_eq_true h2.2⟩
  have cl : ∀ k e e' j, h0[k]? = some e' → rm_cell xs e e' → rm_shc (ae_sh (k + 1)) e = true → j < (ae_sh (k + 1)).2.2 → ∃ v, ae_cell L xs h0 (k + 1) j = some v ∧ rm_ok xs (rm_gV e j) v := by
    intro k e e' j he h1 h2 hj
    have e0 : ae_cell L xs h0 (k + 1) j = ae_ec e' j := by
      show (h0[k]?.bind fun e => ae_ec e j) = _
      rw [he]; rfl
    rw [e0]
    cases e with
    | inl x => cases e' with
      | inl z =>
        unfold rm_shc at h2
        simp only [Bool.and_eq_true] at h2
        obtain ⟨g1, g2, g3, g4⟩ := h1
        have hz : z.2.1 = (ae_sh (k + 1)).2.2 := by rw [← g2]; exact Nat.eq_of_beq_eq_true h2.2
        refine ⟨rm_cv z.2.2 j, ?_, g4 j (by omega)⟩
        show (bif Nat.blt j z.2.1 then some (ae_cv z.2.2 j) else none) = _
        rw [Nat.blt_eq.mpr (by omega)]
        obtain ⟨z1, z2, z3⟩ := z
        rcases z3 with f | f | f | f | f <;> rfl
      | inr z => exact absurd h1 id
    | inr x => cases e' with
      | inl z => exact absurd h1 id
      | inr z =>
        unfold rm_shc at h2
        simp only [Bool.and_eq_true] at h2
        have hx : x.2.length = (ae_sh (k + 1)).2.2 := Nat.eq_of_beq_eq_true h2.2
        have hg : x.2[j]? = some (x.2[j]'(by omega)) := List.getElem?_eq_getElem (by omega)
        obtain ⟨v, v1, v2⟩ := rm_all_get h1.2 hg
        refine ⟨v, v1, ?_⟩
        show rm_ok xs ((x.2[j]?).getD (9, 0, 0)) v
        rw [hg]; exact v2
  have zv : ∀ p j x, rm_zv p j = some x → ae_iz (ae_cell L xs h0 p j) = x := by
    intro p j x hz
    cases p with
    | zero => cases hz
    | succ k =>
      have hz : (match rm_h0[k]? with
        | some e => bif Nat.blt j (ae_sh (k + 1)).2.2 && Nat.beq (rm_gV e j).1 0 then some (nI (rm_gV e j).2.1).toInt else none
        | none => none) = some x := hz
      split at hz
      · rename_i e he
        obtain ⟨hb, hz⟩ := ae_bif hz
        cases hz
        rw [Bool.and_eq_true] at hb
        have hk : k < ae_np := by rw [← hc1]; exact (List.getElem?_eq_some_iff.mp he).1
        obtain ⟨e2, e', g1, g2, g3, g4, -⟩ := at_ k hk
        rw [he] at g1
        cases g1
        obtain ⟨v, v1, v2⟩ := cl k e e' j g2 g3 g4 (Nat.blt_eq.mp hb.1)
        rw [v1]
        unfold rm_ok at v2
        rw [Nat.eq_of_beq_eq_true hb.2] at v2
        have v2 : v = .int (nI (rm_gV e j).2.1) := v2
        rw [v2]; rfl
      · cases hz
  refine ⟨⟨⟨by rw [rm_hp_ln hh]; exact hc1, fun k hk => ?_⟩, fun p j v hp hv => Or.inl ?_, fun f hf i hi => Or.inl ?_⟩, zv⟩
  · obtain ⟨e, e', g1, g2, g3, g4, -⟩ := at_ k hk
    exact ⟨e', g2, shp k e e' g3 g4⟩
  · cases p with
    | zero => exact absurd hp (Nat.lt_irrefl 0)
    | succ k =>
      have hv0 := hv
      have hv1 : (h0[k]?.bind fun e => ae_ec e j) = some v := hv
      cases hk0 : h0[k]? with
      | none => rw [hk0] at hv1; cases hv1
      | some e0 =>
        have hk : k < ae_np := by
          have := (List.getElem?_eq_some_iff.mp hk0).1
          rw [rm_hp_ln hh, hc1] at this
          exact this
        obtain ⟨e, e', g1, g2, g3, g4, g5⟩ := at_ k hk
        have hj : j < (ae_sh (k + 1)).2.2 := by
          rw [hk0] at hv1
          have f1 := shp k e e' g3 g4
          rw [hk0] at g2
          cases g2
          have hv1 : ae_ec e0 j = some v := hv1
          cases e0 with
          | inl z =>
            have hv1 : (bif Nat.blt j z.2.1 then some (ae_cv z.2.2 j) else none) = some v := hv1
            have f3 : z.2.1 = (ae_sh (k + 1)).2.2 := f1.2.2.1
            cases hb : Nat.blt j z.2.1 with
            | true => have := Nat.blt_eq.mp hb; omega
            | false => rw [hb] at hv1; cases hv1
          | inr z =>
            have hv1 : z.2[j]? = some v := hv1
            have f3 : z.2.length = (ae_sh (k + 1)).2.2 := f1.2.2
            have := (List.getElem?_eq_some_iff.mp hv1).1
            omega
        obtain ⟨w, w1, w2⟩ := cl k e e' j g2 g3 g4 hj
        rw [hv0] at w1
        cases w1
        exact rm_vc_ok w2 (g5 j hj)
  · have h1 := List.all_eq_true.mp (List.all_eq_true.mp rm_fc_ok f hf) i (List.mem_range.mpr hi)
    obtain ⟨l, hl, h2⟩ := List.any_eq_true.mp h1
    split at h2
    · rename_i x hx
      refine ⟨l, hl, ?_⟩
      have lz : ∀ (b : Nat) (r : List (Nat × Int)) (y : Int), rm_lz f.1 b r = some y → ae_ls L xs h0 f.1 b r = y := by
        intro b r
        induction r with
        | nil => intro y hy; cases hy; rfl
        | cons t r ih =>
          intro y hy
          obtain ⟨a, a1, hy⟩ := Option.bind_eq_some_iff.mp hy
          obtain ⟨b2, b1, hy⟩ := Option.bind_eq_some_iff.mp hy
          cases hy
          show t.2 * ae_iz (ae_cell L xs h0 f.1 (b + t.1)) + ae_ls L xs h0 f.1 b r = _
          rw [zv _ _ _ a1, ih _ b1]
      rw [lz _ _ _ hx]
      exact ae_le_iff.mp h2
    · cases h2
theorem ae_sl_shp {h : List am_E} (hs : ae_shp h) : am_sl h = ((List.range ae_np).map fun k => (ae_sh (k + 1)).2.2).sum := by
  have e : h.map am_sz = (List.range ae_np).map fun k => (ae_sh (k + 1)).2.2 := by
    apply List.ext_getElem?
    intro k
    by_cases hk : k < ae_np
    · obtain ⟨e, g1, g2⟩ := hs.2 k hk
      rw [List.getElem?_map, g1, List.getElem?_map, List.getElem?_range hk]
      show some (am_sz e) = some (ae_sh (k + 1)).2.2
      cases e with
      | inl z => rw [show am_sz (.inl z) = (ae_sh (k + 1)).2.2 from g2.2.2.1]
      | inr z => rw [show am_sz (.inr z) = (ae_sh (k + 1)).2.2 from g2.2.2]
    · rw [List.getElem?_eq_none (by rw [List.length_map, hs.1]; omega), List.getElem?_eq_none (by rw [List.length_map, List.length_range]; omega)]
  unfold am_sl
  rw [e]
theorem ae_sl_max : ((List.range ae_np).map fun k => (ae_sh (k + 1)).2.2).sum ≤ 7302249 := by decide +kernel
noncomputable def rm_pp : ae_Wa → List (Int × Int) → Bool
  | _, [] => true
  | w :: r, q :: t => (match rm_zv w.1 w.2 with
    | some x => ae_le q.1 x && ae_le x q.2
    | none => false) && rm_pp r t
  | [], _ :: _ => false
theorem rm_pp_ok {L : Nat} {xs : Nat → Int32} {h0 : List am_E} (hz : ∀ p j x, rm_zv p j = some x → ae_iz (ae_cell L xs h0 p j) = x) : ∀ {ws : ae_Wa} {pre : List (Int × Int)}, rm_pp ws pre = true → ae_prp L xs h0 ws pre
  | [], [], _ => trivial
  | _ :: _, [], _ => trivial
  | [], _ :: _, q => by cases q
  | w :: r, p :: t, q => by
    unfold rm_pp at q
    rw [Bool.and_eq_true] at q
    obtain ⟨q1, q2⟩ := q
    split at q1
    · rename_i x hx
      rw [Bool.and_eq_true] at q1
      refine ⟨?_, rm_pp_ok hz q2⟩
      show p.1 ≤ ae_iz (ae_cell L xs h0 w.1 w.2) ∧ ae_iz (ae_cell L xs h0 w.1 w.2) ≤ p.2
      rw [hz _ _ _ hx]
      exact ⟨ae_le_iff.mp q1.1, ae_le_iff.mp q1.2⟩
    · cases q1
theorem rm_lv0_eq {xs : Nat → Int32} {lw : am_L} (h : rm_lvr xs rm_lv0 lw) : lw = [(3, .int (nI 0)), (2, .ref 219), (1, .ref 1), (0, .ref 0)] := by
  cases lw with
  | nil => exact absurd h id
  | cons q3 lw =>
  cases lw with
  | nil => exact absurd h.2.2 id
  | cons q2 lw =>
  cases lw with
  | nil => exact absurd h.2.2.2.2 id
  | cons q1 lw =>
  cases lw with
  | nil => exact absurd h.2.2.2.2.2.2 id
  | cons q0 lw =>
  cases lw with
  | cons q lw => exact absurd h.2.2.2.2.2.2.2.2 id
  | nil =>
    obtain ⟨e3, o3, e2, o2, e1, o1, e0, o0, -⟩ := h
    obtain ⟨i3, v3⟩ := q3
    obtain ⟨i2, v2⟩ := q2
    obtain ⟨i1, v1⟩ := q1
    obtain ⟨i0, v0⟩ := q0
    have e3 : 3 = i3 := e3
    have e2 : 2 = i2 := e2
    have e1 : 1 = i1 := e1
    have e0 : 0 = i0 := e0
    have o3 : v3 = .int (nI 0) := o3
    have o2 : v2 = .ref 219 := o2
    have o1 : v1 = .ref 1 := o1
    have o0 : v0 = .ref 0 := o0
    subst e3; subst e2; subst e1; subst e0; subst o3; subst o2; subst o1; subst o0
    rfl
set_option maxRecDepth 100000 in
theorem lw_z : (List.range 900).all (fun j => decide (rm_zv 4 j = some 0) && decide (rm_zv 223 j = some 0)) = true := by decide +kernel
theorem lw_zs : rm_zv 3 8 = some 0 ∧ rm_zv 219 8 = some 0 := by decide +kernel
/-! ties on the makers' heap -/
noncomputable def lw_zc (p j : Nat) : Option Int := bif Nat.blt 0 p && Nat.ble p ae_np && Nat.blt j (ae_sh p).2.2 && Nat.beq (ae_iv p j).1 0 then rm_zv p j else none
noncomputable def lw_zl (i : Nat) : List ab_Tt → Option Int
  | [] => some 0
  | t :: r => (lw_zc t.2.1 (t.2.2.1 + t.2.2.2 * i)).bind fun x => (lw_zl i r).bind fun y => some (t.1 * x + y)
noncomputable def lw_zg (i : Nat) (g : ab_Gd) : Bool := match lw_zl i g.2.2 with
  | some y => ae_le (g.1 + g.2.1 * (i : Int) + y) 0
  | none => false
noncomputable def lw_z1 (t : ab_Ti) (i : Nat) : Bool := t.2.2.2.2.1.any (lw_zg i) || (match lw_zc t.1 (t.2.1 + t.st * i) with
  | some x => (match lw_zl i t.2.2.2.1.2 with
    | some y => ae_ie x (t.2.2.2.1.1 + y)
    | none => false)
  | none => false)
noncomputable def lw_zt (T : List ab_Ti) : Bool := T.all fun t => (List.range t.2.2.1).all (lw_z1 t)
section LZA
variable {L : Nat} {xs : Nat → Int32} {h : List am_E}
theorem lw_zc_ok (hk : ae_hk false L xs h) (hz : ∀ p j x, rm_zv p j = some x → ae_iz (ae_cell L xs h p j) = x) {p j : Nat} {x : Int} (q : lw_zc p j = some x) : ab_cv L xs h p j = x := by
  obtain ⟨hb, q⟩ := ae_bif q
  simp only [Bool.and_eq_true] at hb
  obtain ⟨y, y1, y2, -⟩ := rs_int hk (p := p) (j := j) ⟨Nat.blt_eq.mp hb.1.1.1, Nat.le_of_ble_eq_true hb.1.1.2, Nat.blt_eq.mp hb.1.2⟩ (Nat.eq_of_beq_eq_true hb.2)
  have e : y.toInt = ae_iz (ae_cell L xs h p j) := y2
  unfold ab_cv
  rw [y1]
  show y.toInt = x
  rw [e, hz p j x q]
theorem lw_zl_ok (hk : ae_hk false L xs h) (hz : ∀ p j x, rm_zv p j = some x → ae_iz (ae_cell L xs h p j) = x) {i : Nat} : ∀ {l : List ab_Tt} {x : Int}, lw_zl i l = some x → ab_sum (ab_cv L xs h) i l = x
  | [], x, q => by cases q; rfl
  | t :: r, x, q => by
    obtain ⟨a, h1, q⟩ := Option.bind_eq_some_iff.mp q
    obtain ⟨b, h2, q⟩ := Option.bind_eq_some_iff.mp q
    cases q
    show t.1 * ab_cv L xs h t.2.1 (t.2.2.1 + t.2.2.2 * i) + ab_sum (ab_cv L xs h) i r = _
    rw [lw_zc_ok hk hz h1, lw_zl_ok hk hz h2]
theorem lw_zt_ok (hk : ae_hk false L xs h) (hz : ∀ p j x, rm_zv p j = some x → ae_iz (ae_cell L xs h p j) = x) {T : List ab_Ti} (q : lw_zt T = true) : ab_RI T (ab_cv L xs h) := by
  intro t ht i hi
  have h1 := List.all_eq_true.mp (List.all_eq_true.mp q t ht) i (List.mem_range.mpr hi)
  unfold lw_z1 at h1
  rcases Bool.or_eq_true_iff.mp h1 with h1 | h1
  · obtain ⟨g, hg, h2⟩ := List.any_eq_true.mp h1
    refine Or.inl ⟨g, hg, ?_⟩
    unfold lw_zg at h2
    split at h2
    · rename_i y hy
      unfold ab_gd
      rw [lw_zl_ok hk hz hy]
      exact ae_le_iff.mp h2
    · cases h2
  · refine Or.inr ?_
    split at h1
    · rename_i x hx
      split at h1
      · rename_i y hy
        rw [lw_zc_ok hk hz hx, lw_zl_ok hk hz hy]
        exact ae_ie_ok h1
      · cases h1
    · cases h1
end LZA
theorem lw_zd : (lw_pp.all fun b => decide (lw_zc b.1 5 = some 0)) = true := by decide +kernel
theorem lw_zT : lw_zt lw_TT = true := by decide +kernel
theorem am_goal {L : Nat} (xs : Nat → Int32) (hL : L ≤ 3072) : ∃ (n : Nat) (h' : List am_E), am_go L xs n 700 am_law 0 [(0, .ref 0)] [] [] = some (some (.int 1), h') ∧ h'.length ≤ 600000 ∧ am_sl h' ≤ 7302249 := by
  obtain ⟨lw, h0, g1, g2, g3⟩ := am_start L xs
  obtain ⟨hk, hz⟩ := rm_hk (L := L) g2
  obtain rfl := rm_lv0_eq g1
  have by0 : ∀ j, j < 900 → ae_cell L xs h0 223 j = ae_cell L xs h0 4 j := by
    intro j hj
    have h := List.all_eq_true.mp lw_z j (List.mem_range.mpr hj)
    rw [Bool.and_eq_true] at h
    have e4 := hz 4 j 0 (of_decide_eq_true h.1)
    have e2 := hz 223 j 0 (of_decide_eq_true h.2)
    obtain ⟨x, x1, x2, -⟩ := aq_int hk (p := 4) (j := j) ⟨by decide, by decide, hj⟩ rfl
    obtain ⟨y, y1, y2, -⟩ := aq_int hk (p := 223) (j := j) ⟨by decide, by decide, hj⟩ rfl
    have x2 : x.toInt = ae_iz (ae_cell L xs h0 4 j) := x2
    have y2 : y.toInt = ae_iz (ae_cell L xs h0 223 j) := y2
    rw [x1, y1, Int32.toInt_inj.mp (x2.trans (e4.trans (e2.symm.trans y2.symm)))]
  have P0 : lw_dP L xs h0 := by
    intro b hb
    have e : ab_cv L xs h0 b.1 5 = 0 := lw_zc_ok hk hz (of_decide_eq_true (List.all_eq_true.mp lw_zd b hb))
    rw [e]
    exact ⟨fun q a _ _ h3 _ => by omega, fun q1 q2 q3 q4 _ _ _ _ h5 _ _ _ => by omega⟩
  have I : lw_I lw_TT L xs h0 := ⟨hk, lw_zt_ok hk hz lw_zT, (hz 219 8 0 lw_zs.2).trans (hz 3 8 0 lw_zs.1).symm, by0, P0⟩
  obtain ⟨n, h', a1, i2⟩ := lw_run (I := lw_I lw_TT L xs) (fun _ h => h.1.1) (lw_every hL) hL (L + 7) 0 h0 [(3, .int (nI 0)), (2, .ref 219), (1, .ref 1), (0, .ref 0)] (nI 0) (by omega) ⟨rfl, rfl, rfl, rfl⟩ (by decide) (by omega) I
  have hs := i2.1.1
  exact ⟨n + 5000, h', g3 n _ a1, by rw [hs.1]; decide, by rw [ae_sl_shp hs]; exact ae_sl_max⟩

section RS
variable {L own nL a b pc : Nat} {ini : Bool} {xs : Nat → Int32} {bx : rm_B} {lv : rm_L} {st : List rm_V} {h : List rm_E} {lv' : am_L} {st' : List Value} {h' : List am_E} {outs : List rm_R5}
theorem rm_rng_ok {k : Nat} (hb : rm_in xs bx) : ∀ (n lo : Nat), lo ≤ rm_key (xs k) → rm_key (xs k) < lo + n → ∃ z ∈ rm_rng bx k lo n, rm_in xs z.1 ∧ z.2 = rm_lk (rm_key (xs k))
  | 0, lo, h1, h2 => by omega
  | n + 1, lo, h1, h2 => by
    by_cases hk : rm_key (xs k) = lo
    · refine ⟨_, List.mem_cons_self, fun j p hj => ?_, by rw [hk]⟩
      by_cases hkj : k = j
      · subst hkj
        by_cases hlt : k < bx.length
        · rw [List.getElem?_set_self hlt] at hj
          cases hj
          exact ⟨Nat.le_of_eq hk.symm, Nat.le_of_eq hk⟩
        · rw [List.getElem?_eq_none (by simpa using hlt)] at hj
          cases hj
      · rw [List.getElem?_set_ne hkj] at hj
        exact hb j p hj
    · obtain ⟨z, z1, z2⟩ := rm_rng_ok (k := k) hb n (lo + 1) (by omega) (by omega)
      exact ⟨z, List.mem_cons_of_mem _ z1, z2⟩
theorem rm_conc_ok {x : rm_V} {i : Int32} {l : List (rm_B × Nat)} (hb : rm_in xs bx) (hx : rm_ok xs x (.int i)) (e : rm_conc bx x = some l) : ∃ z ∈ l, rm_in xs z.1 ∧ i = nI z.2 ∧ z.2 < 2147483648 := by
  obtain ⟨t, k, m⟩ := x
  unfold rm_conc at e
  match t, hx, e with
  | 0, hx, e =>
    obtain ⟨h1, h2⟩ := am_if_eq e
    cases h2
    have h3 : Value.int i = .int (nI k) := hx
    cases h3
    exact ⟨_, List.mem_singleton.mpr rfl, hb, rfl, Nat.blt_eq.mp h1⟩
  | 1, hx, e =>
    have h3 : Value.int i = .int (xs k) := hx
    cases h3
    dsimp only at e
    cases hq : bx[k]? with
    | none => rw [hq] at e; cases e
    | some q =>
      rw [hq] at e
      obtain ⟨h1, h2⟩ := am_if_eq e
      cases h2
      rw [Bool.and_eq_true] at h1
      have g1 := Nat.le_of_ble_eq_true h1.1
      have g2 := hb k q hq
      obtain ⟨z, z1, z2, z3⟩ := rm_rng_ok (k := k) hb (q.2 + 1 - q.1) q.1 g2.1 (by omega)
      have g3 := rm_key_bd (xs k)
      refine ⟨z, z1, z2, ?_, ?_⟩
      · rw [rm_key_eq, z3, rm_key_nI, rm_lk_lk g3]
      · rw [z3]; unfold rm_lk; omega
  | 2, _, e => cases e
  | 3, _, e => cases e
  | 4, _, e => cases e
  | 5, _, e => cases e
  | 6, _, e => cases e
  | 7, _, e => cases e
  | 8, _, e => cases e
  | t + 9, _, e => cases e
theorem rm_am_in {j n : Nat} (h1 : j < 2147483648) (h2 : j < n) : am_in (nI j) n = true ∧ (nI j).toNatClampNeg = j := by
  have h3 : j < 2 ^ 31 := h1
  have h4 := nI_clamp h3
  have h5 := nI_pos h3
  refine ⟨?_, h4⟩
  unfold am_in
  rw [h4, decide_eq_false h5]
  exact Nat.ble_eq_true_of_le h2
theorem am_ai_of {h : List am_E} {j t n : Nat} {f : Nat → Int32} (e : h[j]? = some (.inl (t, n, .inl f))) : am_ai h (j + 1) t = some (n, f) := by
  show (match h[j]? with
    | some (.inl (c, n, .inl f)) => am_if (Nat.beq c t) (some (n, f))
    | _ => none) = _
  rw [e]
  show am_if (Nat.beq t t) (some (n, f)) = _
  rw [Nat.beq_refl]; rfl
theorem am_al_of {h : List am_E} {j n : Nat} {f : Nat → Int64} (e : h[j]? = some (.inl (2, n, .inr (.inl f)))) : am_al h (j + 1) = some (n, f) := by
  show (match h[j]? with
    | some (.inl (c, n, .inr (.inl f))) => am_if (Nat.beq c 2) (some (n, f))
    | _ => none) = _
  rw [e]; rfl
theorem am_aq_of {h : List am_E} {j t n : Nat} {f : Nat → Option Nat} (e : h[j]? = some (.inl (t, n, .inr (.inr (.inr (.inr f)))))) (h1 : Nat.ble 3 t = true) (h2 : Nat.blt t 9 = true) : am_aq h (j + 1) = some (t, n, f) := by
  show (match h[j]? with
    | some (.inl (c, n, .inr (.inr (.inr (.inr f))))) => am_if (Nat.ble 3 c && Nat.blt c 9) (some (c, n, f))
    | _ => none) = _
  rw [e]
  show am_if (Nat.ble 3 t && Nat.blt t 9) (some (t, n, f)) = _
  rw [h1, h2]; rfl
theorem rm_allz {l : List (rm_B × Nat)} {n : Nat} {z : rm_B × Nat} (h : l.all (fun z => Nat.blt z.2 n) = true) (hz : z ∈ l) : z.2 < n := Nat.blt_eq.mp (List.all_eq_true.mp h z hz)
theorem rs_iaload (hb : rm_in xs bx) (hl : rm_lvr xs lv lv') (hs : rm_all xs st st') (hh : rm_hp xs h h') (e : rm_simple L own ini nL (.iaload) a b pc bx lv st h = some outs) : rm_Post L xs own ini nL (.iaload) a b pc outs lv' st' h' := by
  cases st with
  | nil =>
    have e9 : (none : Option (List rm_R5)) = some outs := e
    cases e9
  | cons i st =>
    cases st' with
    | nil => exact absurd hs id
    | cons iv st' =>
      obtain ⟨o_i, hs⟩ := hs
      cases st with
      | nil =>
        have e9 : (none : Option (List rm_R5)) = some outs := e
        cases e9
      | cons x st =>
        cases st' with
        | nil => exact absurd hs id
        | cons xv st' =>
          obtain ⟨o_x, hs⟩ := hs
          obtain ⟨hq, e⟩ := am_if_eq e
          rw [Bool.and_eq_true] at hq
          obtain ⟨t, k, m⟩ := x
          have hr : xv = .ref k := rm_ok_R o_x hq.1
          subst hr
          obtain ⟨vi, rfl⟩ := rm_ok_I o_i hq.2
          obtain ⟨l, e1, e⟩ := am_bd e
          obtain ⟨z, z1, z2, z3, z4⟩ := rm_conc_ok hb (rm_norm_ok hb o_i) e1
          subst z3
          cases h0 : Nat.beq k 0 with
          | true =>
            obtain rfl : k = 0 := Nat.eq_of_beq_eq_true h0
            have e9 : (none : Option (List rm_R5)) = some outs := e
            cases e9
          | false =>
            have e : ((rm_ar h k).bind fun c => am_if (Nat.beq c.1 0 && l.all (fun z => Nat.blt z.2 c.2.1)) (some (l.map (fun z => (z.1, pc + 1, lv, rm_norm z.1 (rm_ov c.1 c.2.2 z.2) :: st, h))))) = some outs := by
              have e8 := e
              dsimp only at e8
              rw [h0] at e8
              exact e8
            obtain ⟨c, e2, e⟩ := am_bd e
            obtain ⟨hc, e⟩ := am_if_eq e
            cases e
            rw [Bool.and_eq_true] at hc
            obtain ⟨j, cc, hk, g2, g3, g4⟩ := rm_ar_ok hh e2
            have hk : k = j + 1 := hk
            subst hk
            obtain ⟨ct, cn, co⟩ := c
            have zn : z.2 < cn := rm_allz hc.2 z1
            obtain ⟨i1, i2⟩ := rm_am_in z4 zn
            obtain rfl : ct = 0 := Nat.eq_of_beq_eq_true hc.1
            obtain ⟨f, rfl⟩ := g3.1 (Nat.lt_of_lt_of_le (Nat.lt_succ_self _) (Nat.le_of_ble_eq_true rfl))
            refine ⟨_, List.mem_map.mpr ⟨z, z1, rfl⟩, z2, (pc + 1, lv', .int (f z.2) :: st', none), h', ?_, rfl, rfl, hl, ⟨rm_norm_ok z2 (g4 z.2 zn), hs⟩, hh⟩
            show (am_ai h' (j + 1) 0).bind _ = _
            rw [am_ai_of g2]
            show am_if (am_in (nI z.2) cn) (some (pc + 1, lv', .int (f (nI z.2).toNatClampNeg) :: st', none)) = _
            rw [i1, i2]; rfl

theorem rs_laload (hb : rm_in xs bx) (hl : rm_lvr xs lv lv') (hs : rm_all xs st st') (hh : rm_hp xs h h') (e : rm_simple L own ini nL (.laload) a b pc bx lv st h = some outs) : rm_Post L xs own ini nL (.laload) a b pc outs lv' st' h' := by
  cases st with
  | nil =>
    have e9 : (none : Option (List rm_R5)) = some outs := e
    cases e9
  | cons i st =>
    cases st' with
    | nil => exact absurd hs id
    | cons iv st' =>
      obtain ⟨o_i, hs⟩ := hs
      cases st with
      | nil =>
        have e9 : (none : Option (List rm_R5)) = some outs := e
        cases e9
      | cons x st =>
        cases st' with
        | nil => exact absurd hs id
        | cons xv st' =>
          obtain ⟨o_x, hs⟩ := hs
          obtain ⟨hq, e⟩ := am_if_eq e
          rw [Bool.and_eq_true] at hq
          obtain ⟨t, k, m⟩ := x
          have hr : xv = .ref k := rm_ok_R o_x hq.1
          subst hr
          obtain ⟨vi, rfl⟩ := rm_ok_I o_i hq.2
          obtain ⟨l, e1, e⟩ := am_bd e
          obtain ⟨z, z1, z2, z3, z4⟩ := rm_conc_ok hb (rm_norm_ok hb o_i) e1
          subst z3
          obtain ⟨c, e2, e⟩ := am_bd e
          obtain ⟨hc, e⟩ := am_if_eq e
          cases e
          rw [Bool.and_eq_true] at hc
          obtain ⟨j, cc, hk, g2, g3, g4⟩ := rm_ar_ok hh e2
          have hk : k = j + 1 := hk
          subst hk
          obtain ⟨ct, cn, co⟩ := c
          have zn : z.2 < cn := rm_allz hc.2 z1
          obtain ⟨i1, i2⟩ := rm_am_in z4 zn
          obtain rfl : ct = 2 := Nat.eq_of_beq_eq_true hc.1
          obtain ⟨f, rfl⟩ := g3.2.1 rfl
          refine ⟨_, List.mem_map.mpr ⟨z, z1, rfl⟩, z2, (pc + 1, lv', .long (f z.2) :: st', none), h', ?_, rfl, rfl, hl, ⟨g4 z.2 zn, hs⟩, hh⟩
          show (am_al h' (j + 1)).bind _ = _
          rw [am_al_of g2]
          show am_if (am_in (nI z.2) cn) (some (pc + 1, lv', .long (f (nI z.2).toNatClampNeg) :: st', none)) = _
          rw [i1, i2]; rfl

theorem rs_aaload (hb : rm_in xs bx) (hl : rm_lvr xs lv lv') (hs : rm_all xs st st') (hh : rm_hp xs h h') (e : rm_simple L own ini nL (.aaload) a b pc bx lv st h = some outs) : rm_Post L xs own ini nL (.aaload) a b pc outs lv' st' h' := by
  cases st with
  | nil =>
    have e9 : (none : Option (List rm_R5)) = some outs := e
    cases e9
  | cons i st =>
    cases st' with
    | nil => exact absurd hs id
    | cons iv st' =>
      obtain ⟨o_i, hs⟩ := hs
      cases st with
      | nil =>
        have e9 : (none : Option (List rm_R5)) = some outs := e
        cases e9
      | cons x st =>
        cases st' with
        | nil => exact absurd hs id
        | cons xv st' =>
          obtain ⟨o_x, hs⟩ := hs
          obtain ⟨hq, e⟩ := am_if_eq e
          rw [Bool.and_eq_true] at hq
          obtain ⟨t, k, m⟩ := x
          have hr : xv = .ref k := rm_ok_R o_x hq.1
          subst hr
          obtain ⟨vi, rfl⟩ := rm_ok_I o_i hq.2
          obtain ⟨l, e1, e⟩ := am_bd e
          obtain ⟨z, z1, z2, z3, z4⟩ := rm_conc_ok hb (rm_norm_ok hb o_i) e1
          subst z3
          obtain ⟨c, e2, e⟩ := am_bd e
          obtain ⟨hc, e⟩ := am_if_eq e
          cases e
          simp only [Bool.and_eq_true] at hc
          obtain ⟨j, cc, hk, g2, g3, g4⟩ := rm_ar_ok hh e2
          have hk : k = j + 1 := hk
          subst hk
          obtain ⟨ct, cn, co⟩ := c
          have zn : z.2 < cn := rm_allz hc.2 z1
          obtain ⟨i1, i2⟩ := rm_am_in z4 zn
          obtain ⟨f, rfl⟩ := g3.2.2 (Nat.le_of_ble_eq_true hc.1.1)
          refine ⟨_, List.mem_map.mpr ⟨z, z1, rfl⟩, z2, (pc + 1, lv', va_rf (f z.2) :: st', none), h', ?_, rfl, rfl, hl, ⟨g4 z.2 zn, hs⟩, hh⟩
          show (am_aq h' (j + 1)).bind _ = _
          rw [am_aq_of g2 hc.1.1 hc.1.2]
          show am_if (am_in (nI z.2) cn) (some (pc + 1, lv', va_rf (f (nI z.2).toNatClampNeg) :: st', none)) = _
          rw [i1, i2]; rfl

theorem rs_iastore (hb : rm_in xs bx) (hl : rm_lvr xs lv lv') (hs : rm_all xs st st') (hh : rm_hp xs h h') (e : rm_simple L own ini nL (.iastore) a b pc bx lv st h = some outs) : rm_Post L xs own ini nL (.iastore) a b pc outs lv' st' h' := by
  cases st with
  | nil =>
    have e9 : (none : Option (List rm_R5)) = some outs := e
    cases e9
  | cons v st =>
    cases st' with
    | nil => exact absurd hs id
    | cons vv st' =>
      obtain ⟨o_v, hs⟩ := hs
      cases st with
      | nil =>
        have e9 : (none : Option (List rm_R5)) = some outs := e
        cases e9
      | cons i st =>
        cases st' with
        | nil => exact absurd hs id
        | cons iv st' =>
          obtain ⟨o_i, hs⟩ := hs
          cases st with
          | nil =>
            have e9 : (none : Option (List rm_R5)) = some outs := e
            cases e9
          | cons x st =>
            cases st' with
            | nil => exact absurd hs id
            | cons xv st' =>
              obtain ⟨o_x, hs⟩ := hs
              obtain ⟨hq, e⟩ := am_if_eq e
              simp only [Bool.and_eq_true] at hq
              obtain ⟨t, k, m⟩ := x
              have hr : xv = .ref k := rm_ok_R o_x hq.1.1
              subst hr
              obtain ⟨vi, rfl⟩ := rm_ok_I o_i hq.1.2
              obtain ⟨vv0, rfl⟩ := rm_ok_I o_v hq.2
              obtain ⟨l, e1, e⟩ := am_bd e
              obtain ⟨z, z1, z2, z3, z4⟩ := rm_conc_ok hb (rm_norm_ok hb o_i) e1
              subst z3
              obtain ⟨c, e2, e⟩ := am_bd e
              obtain ⟨hc, e⟩ := am_if_eq e
              cases e
              simp only [Bool.and_eq_true] at hc
              obtain ⟨j, cc, hk, g2, g3, g4⟩ := rm_ar_ok hh e2
              have hk : k = j + 1 := hk
              subst hk
              obtain ⟨ct, cn, co⟩ := c
              have zn : z.2 < cn := rm_allz hc.2 z1
              obtain ⟨i1, i2⟩ := rm_am_in z4 zn
              obtain rfl : ct = 0 := Nat.eq_of_beq_eq_true hc.1
              obtain ⟨f, rfl⟩ := g3.1 (Nat.lt_of_lt_of_le (Nat.lt_succ_self _) (Nat.le_of_ble_eq_true rfl))
              obtain ⟨f1, f2, f3⟩ := am_app_at (e1 := .inl (0, cn, .inl (upd f z.2 vv0))) g2 rfl
              refine ⟨_, List.mem_map.mpr ⟨z, z1, rfl⟩, z2, (pc + 1, lv', st', some (some j, .inl (0, cn, .inl (upd f z.2 vv0)))), h'.set j (.inl (0, cn, .inl (upd f z.2 vv0))), ?_, f1, rfl, hl, hs, ?_⟩
              · show (am_ai h' (j + 1) 0).bind _ = _
                rw [am_ai_of g2]
                show am_if (am_in (nI z.2) cn) (some (pc + 1, lv', st', (some (some j, .inl (0, cn, .inl (upd f (nI z.2).toNatClampNeg vv0))) : am_Ef))) = _
                rw [i1, i2]; rfl
              · refine rm_hp_rset j hh ⟨rfl, rfl, ⟨fun _ => ⟨_, rfl⟩, fun q => by omega, fun q => by omega⟩, fun j2 hj2 => ?_⟩
                show rm_ok xs (rm_ov 0 (rm_ovs 0 co z.2 v) j2) _
                rw [rm_ovs_get]
                show rm_ok xs _ (.int (upd f z.2 vv0 j2))
                by_cases hj : j2 = z.2
                · rw [if_pos hj]
                  simp only [upd, hj, if_true]
                  exact o_v
                · rw [if_neg hj]
                  simp only [upd, hj, if_false]
                  exact g4 j2 hj2

theorem rs_bastore (hb : rm_in xs bx) (hl : rm_lvr xs lv lv') (hs : rm_all xs st st') (hh : rm_hp xs h h') (e : rm_simple L own ini nL (.bastore) a b pc bx lv st h = some outs) : rm_Post L xs own ini nL (.bastore) a b pc outs lv' st' h' := by
  cases st with
  | nil =>
    have e9 : (none : Option (List rm_R5)) = some outs := e
    cases e9
  | cons v st =>
    cases st' with
    | nil => exact absurd hs id
    | cons vv st' =>
      obtain ⟨o_v, hs⟩ := hs
      cases st with
      | nil =>
        have e9 : (none : Option (List rm_R5)) = some outs := e
        cases e9
      | cons i st =>
        cases st' with
        | nil => exact absurd hs id
        | cons iv st' =>
          obtain ⟨o_i, hs⟩ := hs
          cases st with
          | nil =>
            have e9 : (none : Option (List rm_R5)) = some outs := e
            cases e9
          | cons x st =>
            cases st' with
            | nil => exact absurd hs id
            | cons xv st' =>
              obtain ⟨o_x, hs⟩ := hs
              obtain ⟨hq, e⟩ := am_if_eq e
              simp only [Bool.and_eq_true] at hq
              obtain ⟨t, k, m⟩ := x
              have hr : xv = .ref k := rm_ok_R o_x hq.1.1
              subst hr
              obtain ⟨vi, rfl⟩ := rm_ok_I o_i hq.1.2
              obtain ⟨vv0, rfl⟩ := rm_ok_I o_v hq.2
              obtain ⟨l, e1, e⟩ := am_bd e
              obtain ⟨z, z1, z2, z3, z4⟩ := rm_conc_ok hb (rm_norm_ok hb o_i) e1
              subst z3
              obtain ⟨c, e2, e⟩ := am_bd e
              obtain ⟨hc, e⟩ := am_if_eq e
              cases e
              simp only [Bool.and_eq_true] at hc
              obtain ⟨j, cc, hk, g2, g3, g4⟩ := rm_ar_ok hh e2
              have hk : k = j + 1 := hk
              subst hk
              obtain ⟨ct, cn, co⟩ := c
              have zn : z.2 < cn := rm_allz hc.2 z1
              obtain ⟨i1, i2⟩ := rm_am_in z4 zn
              obtain rfl : ct = 1 := Nat.eq_of_beq_eq_true hc.1
              obtain ⟨f, rfl⟩ := g3.1 (Nat.lt_of_lt_of_le (Nat.lt_succ_self _) (Nat.le_of_ble_eq_true rfl))
              obtain ⟨f1, f2, f3⟩ := am_app_at (e1 := .inl (1, cn, .inl (upd f z.2 (vp_nar .byte vv0)))) g2 rfl
              refine ⟨_, List.mem_map.mpr ⟨z, z1, rfl⟩, z2, (pc + 1, lv', st', some (some j, .inl (1, cn, .inl (upd f z.2 (vp_nar .byte vv0))))), h'.set j (.inl (1, cn, .inl (upd f z.2 (vp_nar .byte vv0)))), ?_, f1, rfl, hl, hs, ?_⟩
              · show (am_ai h' (j + 1) 1).bind _ = _
                rw [am_ai_of g2]
                show am_if (am_in (nI z.2) cn) (some (pc + 1, lv', st', (some (some j, .inl (1, cn, .inl (upd f (nI z.2).toNatClampNeg (vp_nar .byte vv0)))) : am_Ef))) = _
                rw [i1, i2]; rfl
              · refine rm_hp_rset j hh ⟨rfl, rfl, ⟨fun _ => ⟨_, rfl⟩, fun q => by omega, fun q => by omega⟩, fun j2 hj2 => ?_⟩
                show rm_ok xs (rm_ov 1 (rm_ovs 1 co z.2 (2, 0, 0)) j2) _
                rw [rm_ovs_get]
                show rm_ok xs _ (.int (upd f z.2 (vp_nar .byte vv0) j2))
                by_cases hj : j2 = z.2
                · rw [if_pos hj]
                  simp only [upd, hj, if_true]
                  exact ⟨_, rfl⟩
                · rw [if_neg hj]
                  simp only [upd, hj, if_false]
                  exact g4 j2 hj2

theorem rs_lastore (hb : rm_in xs bx) (hl : rm_lvr xs lv lv') (hs : rm_all xs st st') (hh : rm_hp xs h h') (e : rm_simple L own ini nL (.lastore) a b pc bx lv st h = some outs) : rm_Post L xs own ini nL (.lastore) a b pc outs lv' st' h' := by
  cases st with
  | nil =>
    have e9 : (none : Option (List rm_R5)) = some outs := e
    cases e9
  | cons v st =>
    cases st' with
    | nil => exact absurd hs id
    | cons vv st' =>
      obtain ⟨o_v, hs⟩ := hs
      cases st with
      | nil =>
        have e9 : (none : Option (List rm_R5)) = some outs := e
        cases e9
      | cons i st =>
        cases st' with
        | nil => exact absurd hs id
        | cons iv st' =>
          obtain ⟨o_i, hs⟩ := hs
          cases st with
          | nil =>
            have e9 : (none : Option (List rm_R5)) = some outs := e
            cases e9
          | cons x st =>
            cases st' with
            | nil => exact absurd hs id
            | cons xv st' =>
              obtain ⟨o_x, hs⟩ := hs
              obtain ⟨hq, e⟩ := am_if_eq e
              simp only [Bool.and_eq_true] at hq
              obtain ⟨t, k, m⟩ := x
              have hr : xv = .ref k := rm_ok_R o_x hq.1.1
              subst hr
              obtain ⟨vi, rfl⟩ := rm_ok_I o_i hq.1.2
              obtain ⟨vv0, rfl⟩ := rm_ok_J o_v hq.2
              obtain ⟨l, e1, e⟩ := am_bd e
              obtain ⟨z, z1, z2, z3, z4⟩ := rm_conc_ok hb (rm_norm_ok hb o_i) e1
              subst z3
              obtain ⟨c, e2, e⟩ := am_bd e
              obtain ⟨hc, e⟩ := am_if_eq e
              cases e
              simp only [Bool.and_eq_true] at hc
              obtain ⟨j, cc, hk, g2, g3, g4⟩ := rm_ar_ok hh e2
              have hk : k = j + 1 := hk
              subst hk
              obtain ⟨ct, cn, co⟩ := c
              have zn : z.2 < cn := rm_allz hc.2 z1
              obtain ⟨i1, i2⟩ := rm_am_in z4 zn
              obtain rfl : ct = 2 := Nat.eq_of_beq_eq_true hc.1
              obtain ⟨f, rfl⟩ := g3.2.1 rfl
              obtain ⟨f1, f2, f3⟩ := am_app_at (e1 := .inl (2, cn, .inr (.inl (vp_updL f z.2 vv0)))) g2 rfl
              refine ⟨_, List.mem_map.mpr ⟨z, z1, rfl⟩, z2, (pc + 1, lv', st', some (some j, .inl (2, cn, .inr (.inl (vp_updL f z.2 vv0))))), h'.set j (.inl (2, cn, .inr (.inl (vp_updL f z.2 vv0)))), ?_, f1, rfl, hl, hs, ?_⟩
              · show (am_al h' (j + 1)).bind _ = _
                rw [am_al_of g2]
                show am_if (am_in (nI z.2) cn) (some (pc + 1, lv', st', (some (some j, .inl (2, cn, .inr (.inl (vp_updL f (nI z.2).toNatClampNeg vv0)))) : am_Ef))) = _
                rw [i1, i2]; rfl
              · refine rm_hp_rset j hh ⟨rfl, rfl, ⟨fun q => by omega, fun _ => ⟨_, rfl⟩, fun q => by omega⟩, fun j2 hj2 => ?_⟩
                show rm_ok xs (rm_ov 2 (rm_ovs 2 co z.2 v) j2) _
                rw [rm_ovs_get]
                show rm_ok xs _ (.long (vp_updL f z.2 vv0 j2))
                by_cases hj : j2 = z.2
                · rw [if_pos hj]
                  simp only [vp_updL, hj, if_true]
                  exact o_v
                · rw [if_neg hj]
                  simp only [vp_updL, hj, if_false]
                  exact g4 j2 hj2

theorem rs_aastore (hb : rm_in xs bx) (hl : rm_lvr xs lv lv') (hs : rm_all xs st st') (hh : rm_hp xs h h') (e : rm_simple L own ini nL (.aastore) a b pc bx lv st h = some outs) : rm_Post L xs own ini nL (.aastore) a b pc outs lv' st' h' := by
  cases st with
  | nil =>
    have e9 : (none : Option (List rm_R5)) = some outs := e
    cases e9
  | cons v st =>
    cases st' with
    | nil => exact absurd hs id
    | cons vv st' =>
      obtain ⟨o_v, hs⟩ := hs
      cases st with
      | nil =>
        have e9 : (none : Option (List rm_R5)) = some outs := e
        cases e9
      | cons i st =>
        cases st' with
        | nil => exact absurd hs id
        | cons iv st' =>
          obtain ⟨o_i, hs⟩ := hs
          cases st with
          | nil =>
            have e9 : (none : Option (List rm_R5)) = some outs := e
            cases e9
          | cons x st =>
            cases st' with
            | nil => exact absurd hs id
            | cons xv st' =>
              obtain ⟨o_x, hs⟩ := hs
              obtain ⟨hq, e⟩ := am_if_eq e
              simp only [Bool.and_eq_true] at hq
              obtain ⟨t, k, m⟩ := x
              have hr : xv = .ref k := rm_ok_R o_x hq.1.1
              subst hr
              obtain ⟨vi, rfl⟩ := rm_ok_I o_i hq.1.2
              obtain ⟨t9, k9, m9⟩ := v
              have hr9 : vv = .ref k9 := rm_ok_R o_v hq.2
              subst hr9
              obtain ⟨l, e1, e⟩ := am_bd e
              obtain ⟨z, z1, z2, z3, z4⟩ := rm_conc_ok hb (rm_norm_ok hb o_i) e1
              subst z3
              obtain ⟨c, e2, e⟩ := am_bd e
              obtain ⟨fs9, e9, e⟩ := am_bd e
              obtain ⟨j9, gs9, y1, y2, y5, y6⟩ := rm_ob_ok hh e9
              obtain ⟨hc, e⟩ := am_if_eq e
              cases e
              simp only [Bool.and_eq_true] at hc
              obtain ⟨j, cc, hk, g2, g3, g4⟩ := rm_ar_ok hh e2
              have hk : k = j + 1 := hk
              subst hk
              obtain ⟨ct, cn, co⟩ := c
              have zn : z.2 < cn := rm_allz hc.2 z1
              obtain ⟨i1, i2⟩ := rm_am_in z4 zn
              obtain ⟨f, rfl⟩ := g3.2.2 (Nat.le_of_ble_eq_true hc.1.1)
              obtain ⟨f1, f2, f3⟩ := am_app_at (e1 := .inl (ct, cn, .inr (.inr (.inr (.inr (va_up f z.2 (some k9))))))) g2 rfl
              refine ⟨_, List.mem_map.mpr ⟨z, z1, rfl⟩, z2, (pc + 1, lv', st', some (some j, .inl (ct, cn, .inr (.inr (.inr (.inr (va_up f z.2 (some k9)))))))), h'.set j (.inl (ct, cn, .inr (.inr (.inr (.inr (va_up f z.2 (some k9))))))), ?_, f1, rfl, hl, hs, ?_⟩
              · show (am_aq h' (j + 1)).bind _ = _
                rw [am_aq_of g2 hc.1.1 hc.1.2]
                show (am_ob h' k9 (am_tq ct)).bind _ = _
                rw [y5]
                show am_if (am_in (nI z.2) cn) (some (pc + 1, lv', st', (some (some j, .inl (ct, cn, .inr (.inr (.inr (.inr (va_up f (nI z.2).toNatClampNeg (some k9)))))))  : am_Ef))) = _
                rw [i1, i2]; rfl
              · have h3t := Nat.le_of_ble_eq_true hc.1.1
                refine rm_hp_rset j hh ⟨rfl, rfl, ⟨fun q => by omega, fun q => by omega, fun _ => ⟨_, rfl⟩⟩, fun j2 hj2 => ?_⟩
                show rm_ok xs (rm_ov ct (rm_ovs ct co z.2 (t9, k9, m9)) j2) (va_rf (va_up f z.2 (some k9) j2))
                rw [rm_ovs_get]
                by_cases hj : j2 = z.2
                · rw [if_pos hj]
                  simp only [va_up, hj, if_true]
                  exact o_v
                · rw [if_neg hj]
                  simp only [va_up, hj, if_false]
                  exact g4 j2 hj2

end RS

theorem rm_cpo_get (o0 : List (Nat × rm_V)) (sp dp : Nat) (o : List (Nat × rm_V)) (j : Nat) : ∀ n : Nat, rm_ov 0 (rm_cpo o0 sp dp n o) j = if dp ≤ j ∧ j < dp + n then rm_ov 0 o0 (sp + (j - dp)) else rm_ov 0 o j
  | 0 => by rw [if_neg (by omega)]; rfl
  | n + 1 => by
    show rm_ov 0 (rm_ovs 0 (rm_cpo o0 sp dp n o) (dp + n) (rm_ov 0 o0 (sp + n))) j = _
    rw [rm_ovs_get, rm_cpo_get o0 sp dp o j n]
    by_cases h1 : j = dp + n
    · rw [if_pos h1, if_pos (by omega), show sp + (j - dp) = sp + n by omega]
    · rw [if_neg h1]
      by_cases h2 : dp ≤ j ∧ j < dp + n
      · rw [if_pos h2, if_pos (by omega)]
      · rw [if_neg h2, if_neg (by omega)]
theorem rm_sys_ok {a pc : Nat} {xs : Nat → Int32} {bx : rm_B} {lv : rm_L} {st : List rm_V} {h : List rm_E} {lv' : am_L} {st' : List Value} {h' : List am_E} {o : rm_R5} (hb : rm_in xs bx) (hl : rm_lvr xs lv lv') (hs : rm_all xs st st') (hh : rm_hp xs h h') (e : rm_sys a pc bx lv st h = some o) :
    rm_in xs o.1 ∧ ∃ (z : am_R4) (h2 : List am_E), am_sys a pc lv' st' h' = some z ∧ am_app h' z.2.2.2 = some h2 ∧ o.2.1 = z.1 ∧ rm_lvr xs o.2.2.1 z.2.1 ∧ rm_all xs o.2.2.2.1 z.2.2.1 ∧ rm_hp xs o.2.2.2.2 h2 := by
  unfold rm_sys at e
  split at e
  · split at e
    · rename_i x r
      cases st' with
      | nil => exact absurd hs id
      | cons xv st' =>
        obtain ⟨h1, e⟩ := am_if_eq e
        cases e
        have hr := rm_ok_R hs.1 h1
        subst hr
        exact ⟨hb, (pc + 3, lv', st', none), h', rfl, rfl, rfl, hl, hs.2, hh⟩
    · cases e
  · split at e
    · rename_i y x r
      cases st' with
      | nil => exact absurd hs id
      | cons yv st' =>
        cases st' with
        | nil => exact absurd hs.2 id
        | cons xv st' =>
          obtain ⟨h1, e⟩ := am_if_eq e
          rw [Bool.and_eq_true] at h1
          obtain ⟨o_y, o_x, hs⟩ := hs
          obtain ⟨vy, rfl⟩ := rm_ok_I o_y h1.1
          obtain ⟨vx, rfl⟩ := rm_ok_I o_x h1.2
          obtain ⟨b1, b2⟩ := rm_br_ok .lt hb (rm_norm_ok hb o_y) (rm_norm_ok hb o_x)
          split at e
          · rename_i hq
            cases e
            have hnl : ¬ vy < vx := fun z => by
              obtain ⟨u, u1, -⟩ := b1 (decide_eq_true z)
              rw [hq] at u1
              exact absurd u1 List.not_mem_nil
            refine ⟨hb, (pc + 3, lv', .int (if vy < vx then vy else vx) :: st', none), h', rfl, rfl, rfl, hl, ?_, hh⟩
            rw [if_neg hnl]
            exact ⟨o_x, hs⟩
          · rename_i hq
            cases e
            have hnl : vy < vx := Decidable.byContradiction fun z => by
              obtain ⟨u, u1, -⟩ := b2 (decide_eq_false z)
              rw [hq] at u1
              exact absurd u1 List.not_mem_nil
            refine ⟨hb, (pc + 3, lv', .int (if vy < vx then vy else vx) :: st', none), h', rfl, rfl, rfl, hl, ?_, hh⟩
            rw [if_pos hnl]
            exact ⟨o_y, hs⟩
          · cases e
    · cases e
  · split at e
    · rename_i n dp t sp sr r
      cases st' with
      | nil => exact absurd hs id
      | cons w1 st' =>
      cases st' with
      | nil => exact absurd hs.2 id
      | cons w2 st' =>
      cases st' with
      | nil => exact absurd hs.2.2 id
      | cons w3 st' =>
      cases st' with
      | nil => exact absurd hs.2.2.2 id
      | cons w4 st' =>
      cases st' with
      | nil => exact absurd hs.2.2.2.2 id
      | cons w5 st' =>
        obtain ⟨o1, o2, o3, o4, o5, hs⟩ := hs
        obtain ⟨h1, e⟩ := am_if_eq e
        simp only [Bool.and_eq_true] at h1
        obtain ⟨⟨⟨⟨⟨⟨⟨q1, q2⟩, q3⟩, q4⟩, q5⟩, q6⟩, q7⟩, q8⟩ := h1
        obtain ⟨n1, n2, n3⟩ := n
        obtain ⟨d1, d2, d3⟩ := dp
        obtain ⟨p1, p2, p3⟩ := sp
        obtain rfl : n1 = 0 := Nat.eq_of_beq_eq_true q1
        obtain rfl : d1 = 0 := Nat.eq_of_beq_eq_true q2
        obtain rfl : p1 = 0 := Nat.eq_of_beq_eq_true q4
        have o1 : w1 = .int (nI n2) := o1
        have o2 : w2 = .int (nI d2) := o2
        have o4 : w4 = .int (nI p2) := o4
        subst o1; subst o2; subst o4
        have hr3 := rm_ok_R o3 q3
        have hr5 := rm_ok_R o5 q5
        subst hr3; subst hr5
        obtain ⟨n4, n5⟩ := rm_nIs (Nat.le_of_ble_eq_true q6)
        obtain ⟨d4, d5⟩ := rm_nIs (Nat.le_of_ble_eq_true q7)
        obtain ⟨p4, p5⟩ := rm_nIs (Nat.le_of_ble_eq_true q8)
        dsimp only at n4 n5 d4 d5 p4 p5
        obtain ⟨c0, e1, e⟩ := am_bd e
        obtain ⟨c1, e2, e⟩ := am_bd e
        obtain ⟨hc, e⟩ := am_if_eq e
        simp only [Bool.and_eq_true] at hc
        obtain ⟨⟨⟨k1, k2⟩, k3⟩, k4⟩ := hc
        obtain ⟨j0, cc0, hj0, g02, g03, g04⟩ := rm_ar_ok hh e1
        obtain ⟨j1, cc1, hj1, g12, g13, g14⟩ := rm_ar_ok hh e2
        obtain ⟨t0, m0, v0⟩ := c0
        obtain ⟨t1, m1, v1⟩ := c1
        obtain rfl : t0 = 0 := Nat.eq_of_beq_eq_true k1
        obtain rfl : t1 = 0 := Nat.eq_of_beq_eq_true k2
        have k3 : p2 + n2 ≤ m0 := Nat.le_of_ble_eq_true k3
        have k4 : d2 + n2 ≤ m1 := Nat.le_of_ble_eq_true k4
        obtain ⟨f, rfl⟩ := g03.1 (Nat.lt_of_lt_of_le (Nat.lt_succ_self _) (Nat.le_of_ble_eq_true rfl))
        obtain ⟨g, rfl⟩ := g13.1 (Nat.lt_of_lt_of_le (Nat.lt_succ_self _) (Nat.le_of_ble_eq_true rfl))
        cases e
        obtain ⟨f1, f2, f3⟩ := am_app_at (e1 := .inl (0, m1, .inl (va_cpy f g p2 d2 n2))) g12 rfl
        refine ⟨hb, (pc + 3, lv', st', some (some j1, .inl (0, m1, .inl (va_cpy f g p2 d2 n2)))), _, ?_, f1, rfl, hl, hs, ?_⟩
        · show (am_ai h' sr.2.1 0).bind _ = _
          rw [hj0, am_ai_of g02]
          show (am_ai h' t.2.1 0).bind _ = _
          rw [hj1, am_ai_of g12]
          show am_if (!(decide (nI p2 < 0)) && !(decide (nI d2 < 0)) && !(decide (nI n2 < 0)) && Nat.ble ((nI p2).toNatClampNeg + (nI n2).toNatClampNeg) m0 && Nat.ble ((nI d2).toNatClampNeg + (nI n2).toNatClampNeg) m1) (some (pc + 3, lv', st', (some (some j1, .inl (0, m1, .inl (va_cpy f g (nI p2).toNatClampNeg (nI d2).toNatClampNeg (nI n2).toNatClampNeg))) : am_Ef))) = _
          rw [n5, d5, p5, decide_eq_false n4, decide_eq_false d4, decide_eq_false p4, Nat.ble_eq_true_of_le k3, Nat.ble_eq_true_of_le k4]; rfl
        · show rm_hp xs (rm_set h (t.2.1 - 1) _) _
          rw [hj1]
          refine rm_hp_rset j1 hh ⟨rfl, rfl, ⟨fun _ => ⟨_, rfl⟩, fun q => by omega, fun q => by omega⟩, fun j hj => ?_⟩
          show rm_ok xs (rm_ov 0 (rm_cpo v0 p2 d2 n2 v1) j) (.int (va_cpy f g p2 d2 n2 j))
          rw [rm_cpo_get]
          unfold va_cpy
          by_cases hz : d2 ≤ j ∧ j < d2 + n2
          · rw [if_pos hz, if_pos hz]
            exact g04 (p2 + (j - d2)) (by show _ < m0; omega)
          · rw [if_neg hz, if_neg hz]
            exact g14 j hj
    · cases e
  · cases e

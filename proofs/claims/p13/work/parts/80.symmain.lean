theorem rm_End_step {L : Nat} {xs : Nat → Int32} {n d y pc pc1 : Nat} {lv lv1 : am_L} {st st1 : List Value} {h h1 : List am_E} {o : rm_O} (hst : ∀ m, n ≤ m → ∀ R, am_go L xs m d y pc1 lv1 st1 h1 = some R → am_go L xs (m + 1) d y pc lv st h = some R) (k : rm_End L xs n d y pc1 lv1 st1 h1 o) : rm_End L xs (n + 1) d y pc lv st h o := by
  unfold rm_End at k ⊢
  split at k
  · obtain ⟨r, h2, k1, k2, k3⟩ := k
    exact ⟨r, h2, hst n (Nat.le_refl n) _ k1, k2, k3⟩
  · obtain ⟨lv2, st2, h2, k1, k2, k3, k4⟩ := k
    exact ⟨lv2, st2, h2, k1, k2, k3, fun m R hm => by rw [show m + (n + 1) = (m + n) + 1 by omega]; exact hst (m + n) (by omega) R (k4 m R hm)⟩
theorem am_go_simple {L : Nat} {xs : Nat → Int32} {m d y pc a b : Nat} {i : Instr} {lv : am_L} {st : List Value} {h h2 : List am_E} {z : am_R4} (hc : am_code y pc = some (i, a, b)) (hR : am_isR i = false) (hC : am_isC i = false) (hz : am_simple L xs (am_inf y).1 (am_inf y).2.1 (am_inf y).2.2.1 i a b pc lv st h = some z) (ha : am_app h z.2.2.2 = some h2) : am_go L xs (m + 1) d y pc lv st h = am_go L xs m d y z.1 z.2.1 z.2.2.1 h2 := by
  rw [am_go_succ]
  show (am_code y pc).bind _ = _
  rw [hc]
  show (bif am_isR i then _ else bif am_isC i then _ else _) = _
  rw [hR, hC]
  show (am_simple L xs (am_inf y).1 (am_inf y).2.1 (am_inf y).2.2.1 i a b pc lv st h).bind _ = _
  rw [hz]
  show (am_app h z.2.2.2).bind _ = _
  rw [ha]; rfl
theorem am_go_call {L : Nat} {xs : Nat → Int32} {m d y pc a b : Nat} {i : Instr} {lv : am_L} {st : List Value} {h : List am_E} (hc : am_code y pc = some (i, a, b)) (hR : am_isR i = false) (hC : am_isC i = true) : am_go L xs (m + 1) d y pc lv st h = am_inv (am_go L xs m) d y i a b pc lv st h := by
  rw [am_go_succ]
  show (am_code y pc).bind _ = _
  rw [hc]
  show (bif am_isR i then _ else bif am_isC i then _ else _) = _
  rw [hR, hC]; rfl
theorem rm_rcv_ok {xs : Nat → Int32} {i : Instr} {a own : Nat} {s : List rm_V} {t : List Value} {h : List rm_E} {h' : List am_E} (hs : rm_all xs s t) (hh : rm_hp xs h h') (e : rm_rcv i s h own = true) : am_rcv i a t h' own = true := by
  unfold rm_rcv at e
  split at e
  · split at e
    · rename_i x r
      rw [Bool.and_eq_true] at e
      cases t with
      | nil => exact absurd hs id
      | cons v t =>
        have hr := rm_ok_R hs.1 e.1
        subst hr
        obtain ⟨fs, hfs⟩ := Option.isSome_iff_exists.mp e.2
        obtain ⟨j, gs, g1, g2, g3, g4⟩ := rm_ob_ok hh hfs
        show (am_ob h' x.2.1 own).isSome = true
        rw [g3]; rfl
    · cases e
  · split at e
    · rename_i x r
      cases t with
      | nil => exact absurd hs id
      | cons v t =>
        have hr := rm_ok_R hs.1 e
        subst hr
        rfl
    · cases e
  · rfl
  · cases e
theorem rm_go_ok {L : Nat} {xs : Nat → Int32} {sp : Nat → Nat → Bool} : ∀ (n d y pc : Nat) (bx : rm_B) (lv : rm_L) (st : List rm_V) (h : List rm_E) (outs : List rm_O) (lv' : am_L) (st' : List Value) (h' : List am_E), rm_go L sp n d y pc bx lv st h = some outs → rm_in xs bx → rm_lvr xs lv lv' → rm_all xs st st' → rm_hp xs h h' → ∃ o ∈ outs, rm_in xs o.1 ∧ rm_End L xs n d y pc lv' st' h' o := by
  intro n
  induction n with
  | zero => intro d y pc bx lv st h outs lv' st' h' e; cases e
  | succ n ih =>
    intro d y pc bx lv st h outs lv' st' h' e hb hl hs hh
    rw [rm_go_succ] at e
    unfold rm_step at e
    cases hsp : sp y pc with
    | true =>
      rw [hsp] at e
      cases e
      exact ⟨_, List.mem_singleton.mpr rfl, hb, lv', st', h', hl, hs, hh, fun m R hm => am_go_le hm (by omega)⟩
    | false =>
      rw [hsp] at e
      have e : ((am_code y pc).bind fun q => bif am_isR q.1 then (rm_ret q.1 (am_inf y).2.2.2 st).bind fun r => some [(bx, .inl (r, h))] else bif am_isC q.1 then rm_inv (rm_go L sp n) d y q.1 q.2.1 q.2.2 pc bx lv st h else (rm_simple L (am_inf y).1 (am_inf y).2.1 (am_inf y).2.2.1 q.1 q.2.1 q.2.2 pc bx lv st h).bind (rm_cat fun z => rm_go L sp n d y z.2.1 z.1 z.2.2.1 z.2.2.2.1 z.2.2.2.2)) = some outs := e
      obtain ⟨⟨i, a, b⟩, hc, e⟩ := am_bd e
      cases hR : am_isR i with
      | true =>
        have e1 : ((rm_ret i (am_inf y).2.2.2 st).bind fun r => some [(bx, (.inl (r, h) : (Option rm_V × List rm_E) ⊕ (Nat × rm_L × List rm_V × List rm_E)))]) = some outs := by simpa [hR] using e
        obtain ⟨r, e2, e3⟩ := am_bd e1
        cases e3
        obtain ⟨r', k1, k2⟩ := rm_ret_ok (h' := h') hs e2
        refine ⟨_, List.mem_singleton.mpr rfl, hb, r', h', ?_, k2, hh⟩
        rw [am_go_succ]
        show (am_code y pc).bind _ = _
        rw [hc]
        show (bif am_isR i then _ else _) = _
        rw [hR]
        exact k1
      | false =>
        cases hC : am_isC i with
        | false =>
          have e1 : (rm_simple L (am_inf y).1 (am_inf y).2.1 (am_inf y).2.2.1 i a b pc bx lv st h).bind (rm_cat fun z => rm_go L sp n d y z.2.1 z.1 z.2.2.1 z.2.2.2.1 z.2.2.2.2) = some outs := by simpa [hR, hC] using e
          obtain ⟨os, e2, e3⟩ := am_bd e1
          obtain ⟨o, o1, o2, z, h2, z1, z2, z3, z4, z5, z6⟩ := rs_simple hb hl hs hh e2
          obtain ⟨ys, y1, y2⟩ := rm_cat_mem e3 o o1
          obtain ⟨o3, p1, p2, p3⟩ := ih _ _ _ _ _ _ _ _ z.2.1 z.2.2.1 h2 y1 o2 z4 z5 z6
          rw [z3] at p3
          exact ⟨o3, y2 _ p1, p2, rm_End_step (fun m _ R hm => by rw [am_go_simple hc hR hC z1 z2]; exact hm) p3⟩
        | true =>
          have e1 : rm_inv (rm_go L sp n) d y i a b pc bx lv st h = some outs := by simpa [hR, hC] using e
          unfold rm_inv at e1
          cases hs1 : Nat.ble 1000 a with
          | true =>
            rw [hs1] at e1
            obtain ⟨q, q1, e2⟩ := am_bd e1
            obtain ⟨hk, q2⟩ := am_if_eq q1
            obtain ⟨u1, z, h2, z1, z2, z3, z4, z5, z6⟩ := rm_sys_ok hb hl hs hh q2
            obtain ⟨o3, p1, p2, p3⟩ := ih _ _ _ _ _ _ _ _ z.2.1 z.2.2.1 h2 e2 u1 z4 z5 z6
            rw [z3] at p3
            refine ⟨o3, p1, p2, rm_End_step (fun m _ R hm => ?_) p3⟩
            rw [am_go_call hc hR hC]
            unfold am_inv
            rw [hs1]
            show (am_if (Nat.ble 1 d && Nat.ble (am_cats st') 16) (am_sys a pc lv' st' h')).bind _ = _
            rw [rm_all_cats hs, hk, z1]
            show (am_app h' z.2.2.2).bind _ = _
            rw [z2]
            exact hm
          | false =>
            rw [hs1] at e1
            cases d with
            | zero => cases e1
            | succ d =>
              obtain ⟨hk, e2⟩ := am_if_eq e1
              obtain ⟨cs, c1, e3⟩ := am_bd e2
              simp only [Bool.and_eq_true] at hk
              obtain ⟨⟨⟨k1, k2⟩, k3⟩, k4⟩ := hk
              have ha := rm_all_rev (rm_all_take (am_pop i b) hs)
              have hd := rm_all_drop (am_pop i b) hs
              obtain ⟨oc, oc1, oc2, oc3⟩ := ih d a 0 bx _ [] h cs (lv_args 0 (st'.take (am_pop i b)).reverse) [] h' c1 hb (rm_args_ok 0 ha) trivial hh
              obtain ⟨ys, y1, y2⟩ := rm_cat_mem e3 oc oc1
              obtain ⟨ob, oo⟩ := oc
              cases oo with
              | inr q => cases y1
              | inl q =>
                obtain ⟨r, h2, g1, g2, g3⟩ := oc3
                obtain ⟨o3, p1, p2, p3⟩ := ih (d + 1) y (pc + 3) ob lv (q.1.toList ++ st.drop (am_pop i b)) q.2 ys lv' (r.toList ++ st'.drop (am_pop i b)) h2 y1 oc2 hl (rm_all_app g2 hd) g3
                refine ⟨o3, y2 _ p1, p2, rm_End_step (fun m hm1 R hm => ?_) p3⟩
                rw [am_go_call hc hR hC]
                unfold am_inv
                rw [hs1]
                show am_if (Nat.ble (am_pop i b) st'.length && Nat.ble (am_cats (st'.drop (am_pop i b))) 8 && am_rcv i a (st'.take (am_pop i b)).reverse h' (am_inf a).1 && Nat.ble (am_cats (st'.take (am_pop i b))) (am_inf a).2.2.1) _ = _
                rw [← rm_all_len hs, rm_all_cats hd, rm_all_cats (rm_all_take (am_pop i b) hs), k1, k2, rm_rcv_ok ha hh k3, k4]
                show (am_go L xs m d a 0 (lv_args 0 (st'.take (am_pop i b)).reverse) [] h').bind _ = _
                rw [am_go_le g1 hm1]
                exact hm

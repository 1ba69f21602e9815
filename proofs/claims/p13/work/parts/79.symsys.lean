theorem rm_sys_ok {a pc : Nat} {xs : Nat → Int32} {bx : rm_B} {lv : rm_L} {st : List rm_V} {h : List rm_E} {lv' : am_L} {st' : List Value} {h' : List am_E} {o : rm_R5} (hb : rm_in xs bx) (hl : rm_lvr xs lv lv') (hs : rm_all xs st st') (hh : rm_hp xs h h') (e : rm_sys a pc bx lv st h = some o) :
    rm_in xs o.1 ∧ ∃ (z : am_R4) (h2 : List am_E), am_sys a pc lv' st' h' = some z ∧ am_app h' z.2.2.2 = some h2 ∧ o.2.1 = z.1 ∧ rm_lvr xs o.2.2.1 z.2.1 ∧ rm_all xs o.2.2.2.1 z.2.2.1 ∧ rm_hp xs o.2.2.2.2 h2 := by
  unfold rm_sys at e
  split at e
  · split at e
    · rename_i x r
      cases st' with
      | nil => exact absurd hs id
      | cons xv st' =>
        obtain ⟨h1, e⟩ := am_if_eq e
        cases e
        have hr := rm_ok_R hs.1 h1
        subst hr
        exact ⟨hb, (pc + 3, lv', st', none), h', rfl, rfl, rfl, hl, hs.2, hh⟩
    · cases e
  · cases e

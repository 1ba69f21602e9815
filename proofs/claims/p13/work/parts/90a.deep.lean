/-! More depth does no harm -/
theorem am_go_deep {L : Nat} {xs : Nat → Int32} : ∀ {n d y pc : Nat} {lv : am_L} {st : List Value} {h : List am_E} {x : Option Value × List am_E} {d' : Nat}, am_go L xs n d y pc lv st h = some x → d ≤ d' → am_go L xs n d' y pc lv st h = some x := by
  intro n
  induction n with
  | zero => intro d y pc lv st h x d' hgo; cases hgo
  | succ n ih =>
    intro d y pc lv st h x d' hgo hm
    rw [am_go_succ] at hgo ⊢
    obtain ⟨⟨i, a, b⟩, hc, hgo⟩ := Option.bind_eq_some_iff.mp hgo
    show ((am_code y pc).bind _) = some x
    rw [hc]
    show (bif am_isR i then am_ret i (am_inf y).2.2.2 st h else bif am_isC i then am_inv (am_go L xs n) d' y i a b pc lv st h
      else (am_simple L xs (am_inf y).1 (am_inf y).2.1 (am_inf y).2.2.1 i a b pc lv st h).bind fun z => (am_app h z.2.2.2).bind fun h' => am_go L xs n d' y z.1 z.2.1 z.2.2.1 h') = some x
    have hgo : (bif am_isR i then am_ret i (am_inf y).2.2.2 st h else bif am_isC i then am_inv (am_go L xs n) d y i a b pc lv st h
      else (am_simple L xs (am_inf y).1 (am_inf y).2.1 (am_inf y).2.2.1 i a b pc lv st h).bind fun z => (am_app h z.2.2.2).bind fun h' => am_go L xs n d y z.1 z.2.1 z.2.2.1 h') = some x := hgo
    cases hR : am_isR i with
    | true => rw [hR] at hgo; exact hgo
    | false =>
      rw [hR] at hgo
      cases hC : am_isC i with
      | true =>
        rw [hC] at hgo
        have hgo : am_inv (am_go L xs n) d y i a b pc lv st h = some x := hgo
        show am_inv (am_go L xs n) d' y i a b pc lv st h = some x
        unfold am_inv at hgo ⊢
        cases hs : Nat.ble 1000 a with
        | true =>
          rw [hs] at hgo
          obtain ⟨q, h1, hgo⟩ := Option.bind_eq_some_iff.mp hgo
          obtain ⟨h2, h3, hgo⟩ := Option.bind_eq_some_iff.mp hgo
          obtain ⟨hb, h1⟩ := am_if_eq h1
          rw [Bool.and_eq_true] at hb
          have hb' : (Nat.ble 1 d' && Nat.ble (am_cats st) 16) = true := by
            rw [hb.2, Nat.ble_eq_true_of_le (Nat.le_trans (Nat.le_of_ble_eq_true hb.1) hm)]; rfl
          refine Option.bind_eq_some_iff.mpr ⟨q, ?_, Option.bind_eq_some_iff.mpr ⟨h2, h3, ih hgo hm⟩⟩
          rw [hb']; exact h1
        | false =>
          rw [hs] at hgo
          cases d with
          | zero => cases hgo
          | succ d =>
            obtain ⟨d', rfl⟩ : ∃ q, d' = q + 1 := ⟨d' - 1, by omega⟩
            obtain ⟨hb, hgo⟩ := am_if_eq hgo
            obtain ⟨q, h1, hgo⟩ := Option.bind_eq_some_iff.mp hgo
            show am_if _ _ = some x
            rw [hb]
            exact Option.bind_eq_some_iff.mpr ⟨q, ih h1 (by omega), ih hgo hm⟩
      | false =>
        rw [hC] at hgo
        obtain ⟨z, h1, hgo⟩ := Option.bind_eq_some_iff.mp hgo
        obtain ⟨h2, h3, hgo⟩ := Option.bind_eq_some_iff.mp hgo
        show (am_simple _ _ _ _ _ _ _ _ _ _ _ _).bind _ = some x
        exact Option.bind_eq_some_iff.mpr ⟨z, h1, Option.bind_eq_some_iff.mpr ⟨h2, h3, ih hgo hm⟩⟩

theorem am_go_mre (L : Nat) (xs : Nat → Int32) : ∀ (n d y pc : Nat) (lv : am_L) (st : List Value) (h : List am_E) (R : Option Value × List am_E), am_go L xs n d y pc lv st h = some R → ∀ m, am_go L xs (n + m) d y pc lv st h = some R := by
  intro n
  induction n with
  | zero => intro d y pc lv st h R hgo; cases hgo
  | succ n ih =>
    intro d y pc lv st h R hgo m
    rw [show n + 1 + m = (n + m) + 1 by omega, am_go_succ]
    rw [am_go_succ] at hgo
    obtain ⟨⟨i, a, b⟩, hc, hgo⟩ := am_bd hgo
    show (am_code y pc).bind _ = _
    rw [hc]
    cases hR : am_isR i with
    | true =>
      have hg : am_ret i (am_inf y).2.2.2 st h = some R := by simpa [hR] using hgo
      simpa [hR] using hg
    | false =>
      cases hC : am_isC i with
      | false =>
        have hg : (am_simple L xs (am_inf y).1 (am_inf y).2.1 (am_inf y).2.2.1 i a b pc lv st h).bind (fun z => (am_app h z.2.2.2).bind fun h' => am_go L xs n d y z.1 z.2.1 z.2.2.1 h') = some R := by simpa [hR, hC] using hgo
        obtain ⟨z, z1, hg⟩ := am_bd hg
        obtain ⟨h2, z2, hg⟩ := am_bd hg
        have := ih _ _ _ _ _ _ _ hg m
        simpa [hR, hC, z1, z2] using this
      | true =>
        have hg : am_inv (am_go L xs n) d y i a b pc lv st h = some R := by simpa [hR, hC] using hgo
        have goal : am_inv (am_go L xs (n + m)) d y i a b pc lv st h = some R := by
          unfold am_inv at hg ⊢
          cases hs : Nat.ble 1000 a with
          | true =>
            rw [hs] at hg
            obtain ⟨z, z1, hg⟩ := am_bd hg
            obtain ⟨h2, z2, hg⟩ := am_bd hg
            show (am_if _ _).bind _ = _
            rw [z1]
            show (am_app h z.2.2.2).bind _ = _
            rw [z2]
            exact ih _ _ _ _ _ _ _ hg m
          | false =>
            rw [hs] at hg
            cases d with
            | zero => cases hg
            | succ d =>
              obtain ⟨hb, hg⟩ := am_if_eq hg
              obtain ⟨q, q1, hg⟩ := am_bd hg
              show am_if _ _ = _
              rw [hb]
              show (am_go L xs (n + m) d a 0 _ [] h).bind _ = _
              rw [ih _ _ _ _ _ _ _ q1 m]
              exact ih _ _ _ _ _ _ _ hg m
        simpa [hR, hC] using goal
theorem am_go_le {L : Nat} {xs : Nat → Int32} {n m d y pc : Nat} {lv : am_L} {st : List Value} {h : List am_E} {R : Option Value × List am_E} (hgo : am_go L xs n d y pc lv st h = some R) (hnm : n ≤ m) : am_go L xs m d y pc lv st h = some R := by
  have := am_go_mre L xs n d y pc lv st h R hgo (m - n)
  rwa [show n + (m - n) = m by omega] at this
/-- what an end of a symbolic run says of the run -/
noncomputable def rm_End (L : Nat) (xs : Nat → Int32) (n d y pc : Nat) (lv : am_L) (st : List Value) (h : List am_E) (o : rm_O) : Prop := match o.2 with
  | .inl q => ∃ (r : Option Value) (h2 : List am_E), am_go L xs n d y pc lv st h = some (r, h2) ∧ rm_all xs q.1.toList r.toList ∧ rm_hp xs q.2 h2
  | .inr q => ∃ (lv2 : am_L) (st2 : List Value) (h2 : List am_E), rm_lvr xs q.2.1 lv2 ∧ rm_all xs q.2.2.1 st2 ∧ rm_hp xs q.2.2.2 h2 ∧ ∀ (m : Nat) (R : Option Value × List am_E), am_go L xs m d y q.1 lv2 st2 h2 = some R → am_go L xs (m + n) d y pc lv st h = some R
theorem rm_cat_mem {α β : Type} {f : α → Option (List β)} : ∀ {l : List α} {r : List β}, rm_cat f l = some r → ∀ x ∈ l, ∃ y, f x = some y ∧ ∀ z ∈ y, z ∈ r
  | [], _, _, x, hx => absurd hx List.not_mem_nil
  | a :: t, r, h, x, hx => by
    obtain ⟨y, h1, h⟩ := am_bd h
    obtain ⟨w, h2, h⟩ := am_bd h
    cases h
    rcases List.mem_cons.mp hx with rfl | hx
    · exact ⟨y, h1, fun z hz => List.mem_append_left _ hz⟩
    · obtain ⟨u, u1, u2⟩ := rm_cat_mem h2 x hx
      exact ⟨u, u1, fun z hz => List.mem_append_right _ (u2 z hz)⟩
theorem rm_ret_ok {xs : Nat → Int32} {i : Instr} {rk : Nat} {st : List rm_V} {st' : List Value} {h' : List am_E} {r : Option rm_V} (hs : rm_all xs st st') (e : rm_ret i rk st = some r) : ∃ r', am_ret i rk st' h' = some (r', h') ∧ rm_all xs r.toList r'.toList := by
  unfold rm_ret at e
  split at e
  · split at e
    · obtain ⟨h1, h2⟩ := am_if_eq e
      cases h2
      cases st' with
      | nil => exact ⟨none, by show am_if (Nat.beq rk 0) _ = _; rw [h1]; rfl, trivial⟩
      | cons v t => exact absurd hs id
    · cases e
  · split at e
    · rename_i v
      obtain ⟨h1, h2⟩ := am_if_eq e
      cases h2
      cases st' with
      | nil => exact absurd hs id
      | cons w t =>
        cases t with
        | cons w2 t => exact absurd hs.2 id
        | nil =>
          rw [Bool.and_eq_true] at h1
          obtain ⟨x, rfl⟩ := rm_ok_I hs.1 h1.1
          refine ⟨some (.int x), ?_, hs⟩
          show am_if (Nat.beq rk 1 || (Nat.beq rk 2 && decide (x &&& 1 = x))) _ = _
          have h3 : (Nat.beq rk 1 || (Nat.beq rk 2 && decide (x &&& 1 = x))) = true := by
            have h4 := h1.2
            rw [Bool.or_eq_true] at h4 ⊢
            rcases h4 with h4 | h4
            · exact Or.inl h4
            · simp only [Bool.and_eq_true] at h4
              obtain ⟨⟨k1, k2⟩, k3⟩ := h4
              obtain ⟨t, n, m⟩ := v
              obtain rfl : t = 0 := Nat.eq_of_beq_eq_true k2
              have k3 : n ≤ 1 := Nat.le_of_ble_eq_true k3
              have k4 : Value.int x = .int (nI n) := hs.1
              cases k4
              refine Or.inr ?_
              rw [k1]
              rcases (show n = 0 ∨ n = 1 by omega) with rfl | rfl <;> decide +kernel
          rw [h3]; rfl
    · cases e
  · split at e
    · rename_i v
      obtain ⟨h1, h2⟩ := am_if_eq e
      cases h2
      cases st' with
      | nil => exact absurd hs id
      | cons w t =>
        cases t with
        | cons w2 t => exact absurd hs.2 id
        | nil =>
          rw [Bool.and_eq_true] at h1
          obtain ⟨x, rfl⟩ := rm_ok_J hs.1 h1.1
          refine ⟨some (.long x), ?_, hs⟩
          show am_if (Nat.beq rk 3) _ = _
          rw [h1.2]; rfl
    · cases e
  · cases e

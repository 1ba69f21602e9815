/-! One heap out of two: places below b of the one, the others of the other -/
noncomputable def am_mix (b : Nat) (h h' : List am_E) : List am_E := h.take (b - 1) ++ h'.drop (b - 1)
theorem am_at_lt {h : List am_E} {k : Nat} (hk : h.length < k) : am_at h k = none := by
  cases k with
  | zero => rfl
  | succ k => exact List.getElem?_eq_none (by omega)
theorem am_mix_len {b : Nat} {h h' : List am_E} (e : h.length = h'.length) : (am_mix b h h').length = h.length := by
  unfold am_mix
  rw [List.length_append, List.length_take, List.length_drop]
  omega
theorem am_mix_lo {b : Nat} {h h' : List am_E} (e : h.length = h'.length) (hb : b ≤ h.length + 1) {k : Nat} (hk : k < b) : am_at (am_mix b h h') k = am_at h k := by
  cases k with
  | zero => rfl
  | succ k =>
    show (h.take (b - 1) ++ h'.drop (b - 1))[k]? = h[k]?
    rw [List.getElem?_append_left (by rw [List.length_take]; omega), List.getElem?_take, if_pos (by omega)]
theorem am_mix_hi {b : Nat} {h h' : List am_E} (e : h.length = h'.length) (hb : b ≤ h.length + 1) (h0 : 0 < b) {k : Nat} (hk : b ≤ k) : am_at (am_mix b h h') k = am_at h' k := by
  cases k with
  | zero => omega
  | succ k =>
    show (h.take (b - 1) ++ h'.drop (b - 1))[k]? = h'[k]?
    rw [List.getElem?_append_right (by rw [List.length_take]; omega), List.length_take, List.getElem?_drop]
    have : b - 1 + (k - min (b - 1) h.length) = k := by omega
    rw [this]
theorem am_mix_self (b : Nat) (h : List am_E) : am_mix b h h = h := List.take_append_drop _ _
theorem am_app_lo {b : Nat} {h h' h2 : List am_E} {k : Nat} {e : am_E} (el : h.length = h'.length) (hb : b ≤ h.length + 1) (hk : k + 1 < b) (q : am_app (am_mix b h h') (some (some k, e)) = some h2) : ∃ h1, am_app h (some (some k, e)) = some h1 ∧ h2 = am_mix b h1 h' ∧ h1.length = h.length := by
  obtain ⟨e0, g1, g2⟩ := Option.bind_eq_some_iff.mp (show ((am_mix b h h')[k]?.bind _) = some h2 from q)
  have g0 : h[k]? = some e0 := by
    have := am_mix_lo el hb hk
    have : (am_mix b h h')[k]? = h[k]? := this
    rw [← this]; exact g1
  cases hs : Nat.beq (am_sz e0) (am_sz e) with
  | false => rw [hs] at g2; cases g2
  | true =>
    rw [hs] at g2
    cases g2
    refine ⟨h.set k e, ?_, ?_, List.length_set⟩
    · show (h[k]?.bind _) = _
      rw [g0]
      show (bif Nat.beq (am_sz e0) (am_sz e) then _ else none) = _
      rw [hs]; rfl
    · unfold am_mix
      rw [List.set_append_left _ _ (by rw [List.length_take]; omega), List.take_set]
theorem am_app_hi {b : Nat} {h h' h2 : List am_E} {k : Nat} {e : am_E} (el : h.length = h'.length) (hb : b ≤ h.length + 1) (h0 : 0 < b) (hk : b ≤ k + 1) (q : am_app (am_mix b h h') (some (some k, e)) = some h2) : ∃ h1, am_app h' (some (some k, e)) = some h1 ∧ h2 = am_mix b h h1 ∧ h1.length = h'.length := by
  obtain ⟨e0, g1, g2⟩ := Option.bind_eq_some_iff.mp (show ((am_mix b h h')[k]?.bind _) = some h2 from q)
  have g0 : h'[k]? = some e0 := by
    have := am_mix_hi el hb h0 hk
    have : (am_mix b h h')[k]? = h'[k]? := this
    rw [← this]; exact g1
  cases hs : Nat.beq (am_sz e0) (am_sz e) with
  | false => rw [hs] at g2; cases g2
  | true =>
    rw [hs] at g2
    cases g2
    refine ⟨h'.set k e, ?_, ?_, List.length_set⟩
    · show (h'[k]?.bind _) = _
      rw [g0]
      show (bif Nat.beq (am_sz e0) (am_sz e) then _ else none) = _
      rw [hs]; rfl
    · unfold am_mix
      have hl : (h.take (b - 1)).length = b - 1 := by rw [List.length_take]; omega
      rw [List.set_append_right _ _ (by rw [hl]; omega), hl, List.drop_set]
      rw [if_neg (by omega)]
noncomputable def am_e0 (o : Option am_R4) : Prop := ∀ z, o = some z → z.2.2.2 = none
theorem am_e0_n : am_e0 none := fun _ h => by cases h
theorem am_e0_s {pc : Nat} {lv : am_L} {st : List Value} : am_e0 (some (pc, lv, st, none)) := fun _ h => by cases h; rfl
theorem am_e0_b {α : Type} {o : Option α} {f : α → Option am_R4} (h : ∀ q, am_e0 (f q)) : am_e0 (o.bind f) := by
  cases o with
  | none => exact am_e0_n
  | some q => exact h q
theorem am_e0_i {b : Bool} {o : Option am_R4} (h : am_e0 o) : am_e0 (am_if b o) := by
  cases b with
  | false => exact am_e0_n
  | true => exact h
theorem am_e0_c {b : Bool} {o p : Option am_R4} (h : am_e0 o) (g : am_e0 p) : am_e0 (bif b then o else p) := by
  cases b with
  | false => exact g
  | true => exact h
theorem am_e0_x {pc : Nat} {lv : am_L} {o : Option (List Value)} : am_e0 (am_nx pc lv o) := am_e0_b fun _ => am_e0_s
noncomputable def am_sto : Instr → Bool
  | .putfield _ | .iastore | .bastore | .lastore | .aastore | .new _ | .newarray _ | .anewarray _ => true
  | _ => false
theorem am_simple_e0 {L : Nat} {xs : Nat → Int32} {own : Nat} {ini : Bool} {nL : Nat} {i : Instr} {a b pc : Nat} {lv : am_L} {st : List Value} {h : List am_E} (hi : am_sto i = false) : am_e0 (am_simple L xs own ini nL i a b pc lv st h) := by
  cases i <;> first
    | exact am_e0_n
    | exact am_e0_s
    | exact am_e0_x
    | exact am_e0_b fun _ => am_e0_s
    | exact am_e0_b fun _ => am_e0_b fun _ => am_e0_s
    | exact am_e0_i (am_e0_b fun _ => am_e0_s)
    | exact am_e0_b fun _ => am_e0_b fun _ => am_e0_i am_e0_s
    | exact am_e0_b fun _ => am_e0_b fun _ => am_e0_b fun _ => am_e0_i am_e0_s
    | exact am_e0_b fun _ => am_e0_b fun _ => am_e0_b fun _ => am_e0_s
    | exact am_e0_b fun _ => am_e0_i am_e0_s
    | (cases hi; done)
    | (cases a <;> first | exact am_e0_i (am_e0_c am_e0_s (am_e0_b fun _ => am_e0_i am_e0_s)) | done)
    | skip
  case ldc => exact am_e0_c (am_e0_i (am_e0_c am_e0_s (am_e0_b fun _ => am_e0_i am_e0_s))) (am_e0_b fun _ => am_e0_s)
  case iaload =>
    refine am_e0_b fun q => am_e0_b fun r => ?_
    obtain ⟨p, r⟩ := r
    cases p with
    | zero => exact am_e0_i am_e0_s
    | succ p => exact am_e0_b fun _ => am_e0_i am_e0_s
  all_goals done
/-- an effect lies where a reference on the stack leads -/
theorem am_simple_eff {L : Nat} {xs : Nat → Int32} {own : Nat} {ini : Bool} {nL : Nat} {i : Instr} {a b pc : Nat} {lv : am_L} {st : List Value} {h : List am_E} {z : am_R4} {k : Nat} {e : am_E} (q : am_simple L xs own ini nL i a b pc lv st h = some z) (he : z.2.2.2 = some (some k, e)) : Value.ref (k + 1) ∈ st := by
  have at0 : ∀ {p : Nat} {u : am_E}, am_at h p = some u → p = (p - 1) + 1 := by
    intro p u hu
    cases p with
    | zero => cases hu
    | succ p => rfl
  cases hi : am_sto i with
  | false => rw [am_simple_e0 hi z q] at he; cases he
  | true =>
    cases i <;> try (cases hi; done)
    case putfield =>
      cases st with
      | nil => cases q
      | cons v st =>
        obtain ⟨r, h1, q⟩ := Option.bind_eq_some_iff.mp q
        obtain ⟨fs, h2, q⟩ := Option.bind_eq_some_iff.mp q
        obtain ⟨-, q⟩ := am_if_eq q
        cases q
        cases he
        have m := (am_pr_in h1).1
        obtain ⟨p, r⟩ := r
        cases p with
        | zero => cases h2
        | succ p => exact List.mem_cons_of_mem _ m
    case iastore =>
      obtain ⟨z0, h0, q⟩ := Option.bind_eq_some_iff.mp q
      obtain ⟨x, h1, q⟩ := Option.bind_eq_some_iff.mp q
      obtain ⟨r, h2, q⟩ := Option.bind_eq_some_iff.mp q
      obtain ⟨c, h3, q⟩ := Option.bind_eq_some_iff.mp q
      obtain ⟨-, q⟩ := am_if_eq q
      cases q
      cases he
      have m := am_pi_in h0 _ (am_pi_in h1 _ (am_pr_in h2).1)
      obtain ⟨p, r⟩ := r
      cases p with
      | zero => cases h3
      | succ p => exact m
    case bastore =>
      obtain ⟨z0, h0, q⟩ := Option.bind_eq_some_iff.mp q
      obtain ⟨x, h1, q⟩ := Option.bind_eq_some_iff.mp q
      obtain ⟨r, h2, q⟩ := Option.bind_eq_some_iff.mp q
      obtain ⟨c, h3, q⟩ := Option.bind_eq_some_iff.mp q
      obtain ⟨-, q⟩ := am_if_eq q
      cases q
      cases he
      have m := am_pi_in h0 _ (am_pi_in h1 _ (am_pr_in h2).1)
      obtain ⟨p, r⟩ := r
      cases p with
      | zero => cases h3
      | succ p => exact m
    case lastore =>
      obtain ⟨z0, h0, q⟩ := Option.bind_eq_some_iff.mp q
      obtain ⟨x, h1, q⟩ := Option.bind_eq_some_iff.mp q
      obtain ⟨r, h2, q⟩ := Option.bind_eq_some_iff.mp q
      obtain ⟨c, h3, q⟩ := Option.bind_eq_some_iff.mp q
      obtain ⟨-, q⟩ := am_if_eq q
      cases q
      cases he
      have m := am_pl_in h0 _ (am_pi_in h1 _ (am_pr_in h2).1)
      obtain ⟨p, r⟩ := r
      cases p with
      | zero => cases h3
      | succ p => exact m
    case aastore =>
      obtain ⟨z0, h0, q⟩ := Option.bind_eq_some_iff.mp q
      obtain ⟨x, h1, q⟩ := Option.bind_eq_some_iff.mp q
      obtain ⟨r, h2, q⟩ := Option.bind_eq_some_iff.mp q
      obtain ⟨c, h3, q⟩ := Option.bind_eq_some_iff.mp q
      obtain ⟨c2, h4, q⟩ := Option.bind_eq_some_iff.mp q
      obtain ⟨-, q⟩ := am_if_eq q
      cases q
      cases he
      have m := (am_pr_in h0).2 _ (am_pi_in h1 _ (am_pr_in h2).1)
      obtain ⟨p, r⟩ := r
      cases p with
      | zero => cases h3
      | succ p => exact m
    case new => cases q; cases he
    case newarray =>
      obtain ⟨r, h1, q⟩ := Option.bind_eq_some_iff.mp q
      obtain ⟨-, q⟩ := am_if_eq q
      cases q
      cases he
    case anewarray =>
      obtain ⟨r, h1, q⟩ := Option.bind_eq_some_iff.mp q
      obtain ⟨-, q⟩ := am_if_eq q
      cases q
      cases he

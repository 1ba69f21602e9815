noncomputable def rm_cv (c : (Nat → Int32) ⊕ (Nat → Int64) ⊕ (Nat → UInt32) ⊕ (Nat → UInt64) ⊕ (Nat → Option Nat)) (j : Nat) : Value := match c with
  | .inl f => .int (f j)
  | .inr (.inl f) => .long (f j)
  | .inr (.inr (.inl _)) => .null
  | .inr (.inr (.inr (.inl _))) => .null
  | .inr (.inr (.inr (.inr f))) => va_rf (f j)
noncomputable def rm_kd (t : Nat) (c : (Nat → Int32) ⊕ (Nat → Int64) ⊕ (Nat → UInt32) ⊕ (Nat → UInt64) ⊕ (Nat → Option Nat)) : Prop := (t < 2 → ∃ f, c = .inl f) ∧ (t = 2 → ∃ f, c = .inr (.inl f)) ∧ (3 ≤ t → ∃ f, c = .inr (.inr (.inr (.inr f))))
noncomputable def rm_cell (xs : Nat → Int32) : rm_E → am_E → Prop
  | .inl x, .inl z => x.1 = z.1 ∧ x.2.1 = z.2.1 ∧ rm_kd z.1 z.2.2 ∧ ∀ j, j < z.2.1 → rm_ok xs (rm_ov x.1 x.2.2 j) (rm_cv z.2.2 j)
  | .inr o, .inr q => o.1 = q.1 ∧ rm_all xs o.2 q.2
  | _, _ => False
noncomputable def rm_hp (xs : Nat → Int32) : List rm_E → List am_E → Prop
  | [], [] => True
  | a :: s, v :: t => rm_cell xs a v ∧ rm_hp xs s t
  | _, _ => False
theorem rm_all_len {xs : Nat → Int32} : ∀ {s : List rm_V} {t : List Value}, rm_all xs s t → s.length = t.length
  | [], [], _ => rfl
  | _ :: s, _ :: t, h => by rw [List.length_cons, List.length_cons, rm_all_len h.2]
  | [], _ :: _, h => absurd h id
  | _ :: _, [], h => absurd h id
theorem rm_all_get {xs : Nat → Int32} : ∀ {s : List rm_V} {t : List Value} {k : Nat} {a : rm_V}, rm_all xs s t → s[k]? = some a → ∃ v, t[k]? = some v ∧ rm_ok xs a v
  | [], _, _, _, _, h => by cases h
  | _ :: s, v :: t, 0, _, h, h2 => by cases h2; exact ⟨v, rfl, h.1⟩
  | _ :: s, _ :: t, k + 1, _, h, h2 => rm_all_get (s := s) (t := t) (k := k) h.2 h2
  | _ :: _, [], _, _, h, _ => absurd h id
theorem rm_all_set {xs : Nat → Int32} : ∀ {s : List rm_V} {t : List Value} (k : Nat) {a : rm_V} {v : Value}, rm_all xs s t → rm_ok xs a v → rm_all xs (s.set k a) (t.set k v)
  | [], [], _, _, _, _, _ => trivial
  | _ :: s, _ :: t, 0, _, _, h, h2 => ⟨h2, h.2⟩
  | _ :: s, _ :: t, k + 1, _, _, h, h2 => ⟨h.1, rm_all_set k h.2 h2⟩
  | [], _ :: _, _, _, _, h, _ => absurd h id
  | _ :: _, [], _, _, _, h, _ => absurd h id
theorem rm_all_app {xs : Nat → Int32} : ∀ {s : List rm_V} {t : List Value} {s2 : List rm_V} {t2 : List Value}, rm_all xs s t → rm_all xs s2 t2 → rm_all xs (s ++ s2) (t ++ t2)
  | [], [], _, _, _, h2 => h2
  | _ :: s, _ :: t, _, _, h, h2 => ⟨h.1, rm_all_app h.2 h2⟩
  | [], _ :: _, _, _, h, _ => absurd h id
  | _ :: _, [], _, _, h, _ => absurd h id
theorem rm_all_rev {xs : Nat → Int32} : ∀ {s : List rm_V} {t : List Value}, rm_all xs s t → rm_all xs s.reverse t.reverse
  | [], [], _ => trivial
  | _ :: s, _ :: t, h => by rw [List.reverse_cons, List.reverse_cons]; exact rm_all_app (rm_all_rev h.2) ⟨h.1, trivial⟩
  | [], _ :: _, h => absurd h id
  | _ :: _, [], h => absurd h id
theorem rm_all_take {xs : Nat → Int32} : ∀ {s : List rm_V} {t : List Value} (k : Nat), rm_all xs s t → rm_all xs (s.take k) (t.take k)
  | _, _, 0, _ => trivial
  | [], [], _ + 1, _ => trivial
  | _ :: s, _ :: t, k + 1, h => ⟨h.1, rm_all_take k h.2⟩
  | [], _ :: _, _ + 1, h => absurd h id
  | _ :: _, [], _ + 1, h => absurd h id
theorem rm_all_drop {xs : Nat → Int32} : ∀ {s : List rm_V} {t : List Value} (k : Nat), rm_all xs s t → rm_all xs (s.drop k) (t.drop k)
  | _, _, 0, h => h
  | [], [], _ + 1, _ => trivial
  | _ :: s, _ :: t, k + 1, h => rm_all_drop (s := s) (t := t) k h.2
  | [], _ :: _, _ + 1, h => absurd h id
  | _ :: _, [], _ + 1, h => absurd h id
theorem rm_all_cats {xs : Nat → Int32} : ∀ {s : List rm_V} {t : List Value}, rm_all xs s t → am_cats t = rm_cats s
  | [], [], _ => rfl
  | a :: s, v :: t, h => by
    show v.category + am_cats t = rm_ct a + rm_cats s
    rw [rm_all_cats h.2, rm_ok_cat h.1]
  | [], _ :: _, h => absurd h id
  | _ :: _, [], h => absurd h id
theorem rm_ct_J {xs : Nat → Int32} {a : rm_V} {v : Value} (h : rm_ok xs a v) : (v.category == 2) = rm_isJ a := by
  rw [rm_ok_cat h]
  unfold rm_ct
  cases rm_isJ a <;> rfl
theorem rm_lvr_get {xs : Nat → Int32} : ∀ {s : rm_L} {t : am_L} {i : Nat} {a : rm_V}, rm_lvr xs s t → rm_get s i = some a → ∃ v, am_lk t i = some v ∧ rm_ok xs a v
  | [], [], _, _, _, h2 => by cases h2
  | q :: s, w :: t, i, a, h, h2 => by
    unfold rm_get at h2
    unfold am_lk
    rw [← h.1]
    cases hb : Nat.beq q.1 i with
    | true => rw [hb] at h2; cases h2; exact ⟨w.2, rfl, h.2.1⟩
    | false => rw [hb] at h2; exact rm_lvr_get (s := s) (t := t) h.2.2 h2
  | [], _ :: _, _, _, h, _ => absurd h id
  | _ :: _, [], _, _, h, _ => absurd h id
theorem rm_beq (a b : Nat) : (a == b) = Nat.beq a b := by
  cases h : Nat.beq a b with
  | true => rw [Nat.eq_of_beq_eq_true h]; simp
  | false => 
    have : a ≠ b := fun e => by rw [e, Nat.beq_refl] at h; cases h
    simp [this]
theorem rm_lvr_fil {xs : Nat → Int32} {F : Nat × rm_V → Bool} {G : Nat × Value → Bool} (hFG : ∀ a v, a.1 = v.1 → rm_ok xs a.2 v.2 → F a = G v) : ∀ {s : rm_L} {t : am_L}, rm_lvr xs s t → rm_lvr xs (s.filter F) (t.filter G)
  | [], [], _ => trivial
  | a :: s, v :: t, h => by
    rw [List.filter_cons, List.filter_cons, hFG a v h.1 h.2.1]
    cases G v with
    | true => exact ⟨h.1, h.2.1, rm_lvr_fil hFG h.2.2⟩
    | false => exact rm_lvr_fil hFG h.2.2
  | [], _ :: _, h => absurd h id
  | _ :: _, [], h => absurd h id
theorem rm_lvr_put1 {xs : Nat → Int32} {s : rm_L} {t : am_L} {i : Nat} {a : rm_V} {v : Value} (h : rm_lvr xs s t) (h2 : rm_ok xs a v) : rm_lvr xs (rm_put1 s i a) (am_put1 t i v) :=
  ⟨rfl, h2, rm_lvr_fil (fun a v e h => by rw [e, rm_beq, rm_beq, rm_ct_J h]) h⟩
theorem rm_lvr_put2 {xs : Nat → Int32} {s : rm_L} {t : am_L} {i : Nat} {a : rm_V} {v : Value} (h : rm_lvr xs s t) (h2 : rm_ok xs a v) : rm_lvr xs (rm_put2 s i a) (am_put2 t i v) :=
  ⟨rfl, h2, rm_lvr_fil (fun a v e h => by rw [e, rm_beq, rm_beq, rm_beq, rm_ct_J h]) h⟩
theorem rm_args_ok {xs : Nat → Int32} : ∀ {s : List rm_V} {t : List Value} (i : Nat), rm_all xs s t → rm_lvr xs (rm_args i s) (lv_args i t)
  | [], [], _, _ => trivial
  | a :: s, v :: t, i, h => by
    refine ⟨rfl, h.1, ?_⟩
    have e : (if v.category = 2 then i + 2 else i + 1) = (bif rm_isJ a then i + 2 else i + 1) := by
      have := rm_ok_cat h.1
      unfold rm_ct at this
      cases hj : rm_isJ a <;> rw [hj] at this <;> simp [this]
    show rm_lvr xs (rm_args (bif rm_isJ a then i + 2 else i + 1) s) (lv_args (if v.category = 2 then i + 2 else i + 1) t)
    rw [e]
    exact rm_args_ok _ h.2
  | [], _ :: _, _, h => absurd h id
  | _ :: _, [], _, h => absurd h id
theorem rm_hp_len {xs : Nat → Int32} : ∀ {s : List rm_E} {t : List am_E}, rm_hp xs s t → s.length = t.length
  | [], [], _ => rfl
  | _ :: s, _ :: t, h => by rw [List.length_cons, List.length_cons, rm_hp_len h.2]
  | [], _ :: _, h => absurd h id
  | _ :: _, [], h => absurd h id
theorem rm_hp_get {xs : Nat → Int32} : ∀ {s : List rm_E} {t : List am_E} {k : Nat} {a : rm_E}, rm_hp xs s t → s[k]? = some a → ∃ v, t[k]? = some v ∧ rm_cell xs a v
  | [], _, _, _, _, h => by cases h
  | _ :: s, v :: t, 0, _, h, h2 => by cases h2; exact ⟨v, rfl, h.1⟩
  | _ :: s, _ :: t, k + 1, _, h, h2 => rm_hp_get (s := s) (t := t) (k := k) h.2 h2
  | _ :: _, [], _, _, h, _ => absurd h id
theorem rm_hp_set {xs : Nat → Int32} : ∀ {s : List rm_E} {t : List am_E} (k : Nat) {a : rm_E} {v : am_E}, rm_hp xs s t → rm_cell xs a v → rm_hp xs (s.set k a) (t.set k v)
  | [], [], _, _, _, _, _ => trivial
  | _ :: s, _ :: t, 0, _, _, h, h2 => ⟨h2, h.2⟩
  | _ :: s, _ :: t, k + 1, _, _, h, h2 => ⟨h.1, rm_hp_set k h.2 h2⟩
  | [], _ :: _, _, _, _, h, _ => absurd h id
  | _ :: _, [], _, _, _, h, _ => absurd h id
theorem rm_hp_rset {xs : Nat → Int32} {s : List rm_E} {t : List am_E} (k : Nat) {a : rm_E} {v : am_E} (h : rm_hp xs s t) (h2 : rm_cell xs a v) : rm_hp xs (rm_set s k a) (t.set k v) := by
  rw [rm_set_eq]
  exact rm_hp_set k h h2
theorem rm_hp_push {xs : Nat → Int32} : ∀ {s : List rm_E} {t : List am_E} {a : rm_E} {v : am_E}, rm_hp xs s t → rm_cell xs a v → rm_hp xs (s ++ [a]) (t ++ [v])
  | [], [], _, _, _, h2 => ⟨h2, trivial⟩
  | _ :: s, _ :: t, _, _, h, h2 => ⟨h.1, rm_hp_push h.2 h2⟩
  | [], _ :: _, _, _, h, _ => absurd h id
  | _ :: _, [], _, _, h, _ => absurd h id
theorem rm_ob_ok {xs : Nat → Int32} {s : List rm_E} {t : List am_E} {k ci : Nat} {fs : List rm_V} (h : rm_hp xs s t) (e : rm_ob s k ci = some fs) : ∃ j gs, k = j + 1 ∧ t[j]? = some (.inr (ci, gs)) ∧ am_ob t k ci = some gs ∧ rm_all xs fs gs := by
  unfold rm_ob at e
  cases k with
  | zero => cases e
  | succ j =>
    simp only [rm_hat] at e
    split at e
    · rename_i o hz
      obtain ⟨e1, e2⟩ := am_if_eq e
      have e3 := Nat.eq_of_beq_eq_true e1
      cases e2
      obtain ⟨v, g1, g2⟩ := rm_hp_get h hz
      cases v with
      | inl x => exact absurd g2 id
      | inr q =>
        obtain ⟨q1, q2⟩ := q
        have g3 : o.1 = q1 := g2.1
        obtain rfl : q1 = ci := by rw [← g3, e3]
        refine ⟨j, q2, rfl, g1, ?_, g2.2⟩
        show (match t[j]? with
          | some (.inr (c, fs)) => am_if (Nat.beq c q1) (some fs)
          | _ => none) = some q2
        rw [g1]
        show am_if (Nat.beq q1 q1) (some q2) = some q2
        rw [Nat.beq_refl]; rfl
    · cases e
theorem rm_ar_ok {xs : Nat → Int32} {s : List rm_E} {t : List am_E} {k : Nat} {x : Nat × Nat × List (Nat × rm_V)} (h : rm_hp xs s t) (e : rm_ar s k = some x) : ∃ j c, k = j + 1 ∧ t[j]? = some (.inl (x.1, x.2.1, c)) ∧ rm_kd x.1 c ∧ ∀ i, i < x.2.1 → rm_ok xs (rm_ov x.1 x.2.2 i) (rm_cv c i) := by
  unfold rm_ar at e
  cases k with
  | zero => cases e
  | succ j =>
    simp only [rm_hat] at e
    split at e
    · rename_i o hz
      cases e
      obtain ⟨v, g1, g2⟩ := rm_hp_get h hz
      cases v with
      | inr x => exact absurd g2 id
      | inl q =>
        obtain ⟨q1, q2, q3⟩ := q
        have g3 : x.1 = q1 := g2.1
        have g4 : x.2.1 = q2 := g2.2.1
        have g5 : rm_kd q1 q3 := g2.2.2.1
        have g6 : ∀ j, j < q2 → rm_ok xs (rm_ov x.1 x.2.2 j) (rm_cv q3 j) := g2.2.2.2
        subst g3; subst g4
        exact ⟨j, q3, rfl, g1, g5, g6⟩
    · cases e
theorem rm_ov_fil (t j : Nat) (j2 : Nat) (hne : j2 ≠ j) : ∀ o : List (Nat × rm_V), rm_ov t (o.filter (fun q => !(Nat.beq q.1 j))) j2 = rm_ov t o j2
  | [] => rfl
  | q :: r => by
    rw [List.filter_cons]
    cases hq : Nat.beq q.1 j with
    | true =>
      have e := Nat.eq_of_beq_eq_true hq
      have hb : Nat.beq q.1 j2 = false := by
        cases h3 : Nat.beq q.1 j2 with
        | true => exact absurd ((Nat.eq_of_beq_eq_true h3).symm.trans e) hne
        | false => rfl
      show rm_ov t (r.filter _) j2 = (bif Nat.beq q.1 j2 then q.2 else rm_ov t r j2)
      rw [hb]
      exact rm_ov_fil t j j2 hne r
    | false =>
      show (bif Nat.beq q.1 j2 then q.2 else rm_ov t (r.filter _) j2) = (bif Nat.beq q.1 j2 then q.2 else rm_ov t r j2)
      rw [rm_ov_fil t j j2 hne r]
theorem rm_ovs_get (t : Nat) (o : List (Nat × rm_V)) (j : Nat) (v : rm_V) (j2 : Nat) : rm_ov t (rm_ovs t o j v) j2 = if j2 = j then v else rm_ov t o j2 := by
  unfold rm_ovs
  by_cases h : rm_ov t o j = v
  · rw [decide_eq_true h]
    show rm_ov t o j2 = _
    by_cases h2 : j2 = j
    · rw [if_pos h2, h2, h]
    · rw [if_neg h2]
  · rw [decide_eq_false h]
    show (bif Nat.beq j j2 then v else rm_ov t (o.filter _) j2) = _
    by_cases h2 : j2 = j
    · rw [if_pos h2, h2, Nat.beq_refl]; rfl
    · rw [if_neg h2]
      have hb : Nat.beq j j2 = false := by
        cases h3 : Nat.beq j j2 with
        | true => exact absurd (Nat.eq_of_beq_eq_true h3).symm h2
        | false => rfl
      rw [hb]
      exact rm_ov_fil t j j2 h2 o

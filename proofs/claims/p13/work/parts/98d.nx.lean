/-! What next() sees from a place on, whatever the rest of the reference is -/
theorem am_det {L : Nat} {xs : Nat → Int32} {n m d y pc : Nat} {lv : am_L} {st : List Value} {h : List am_E} {a b : Option Value × List am_E} (q : am_go L xs n d y pc lv st h = some a) (g : am_go L xs m d y pc lv st h = some b) : a = b := by
  have h1 := am_go_more L xs n d y pc lv st h a (max n m) q (Nat.le_max_left _ _)
  have h2 := am_go_more L xs m d y pc lv st h b (max n m) g (Nat.le_max_right _ _)
  rw [h1] at h2
  cases h2
  rfl
noncomputable def aq_nx (L : Nat) (xs : Nat → Int32) (b : Nat → Option Value) (n p kd st vl p' : Int) : Prop :=
  ∀ (hB : List am_E) (d : Nat) (lw : am_L), ae_hk true L xs hB → (∀ j, j < 900 → ae_cell L xs hB 223 j = b j) → aq_ci L xs hB 219 9 = n → aq_ci L xs hB 219 16 = p → 20 ≤ d → am_lk lw 0 = some (.ref 219) →
    ∃ m e2, am_go L xs m d 219 0 lw [] hB = some (none, e2) ∧ ae_hk true L xs e2 ∧ ap_sm L xs true hB e2 ∧ ae_fr [(219, 14, 19)] L xs hB e2 ∧ aq_ci L xs e2 219 16 = p' ∧ aq_tokh L xs e2 kd st vl
section AQN
variable {L : Nat} {xs : Nat → Int32} {hA hB : List am_E}
/-- a heap of the class's that stands beside the reference's -/
noncomputable def aq_gh (L : Nat) (xs : Nat → Int32) (b : Nat → Option Value) (n p : Int) : Prop := ∃ hB : List am_E, ae_hk true L xs hB ∧ (∀ j, j < 900 → ae_cell L xs hB 223 j = b j) ∧ aq_ci L xs hB 219 9 = n ∧ aq_ci L xs hB 219 16 = p
theorem aq_own_hk {ex : Bool} (s : Bool) {e1 e2 : List am_E} (k : ae_hk ex L xs (am_mX2 ap_b s e1 e2)) (h : ap_hx ex L xs s e1) (e : e2.length = ae_np) : ae_hk ex L xs e1 := by
  have h1 := ap_own (M := []) (ae_hp_of (ρ := fun _ => 0) 0 k) h e
  refine ⟨h1.1, fun p j v hp hc => ?_, fun f hf i hi => ?_⟩
  · rcases h1.2.2.1 p j v hp hc with g | ⟨m, m1, -⟩ | g
    · exact Or.inl g
    · exact absurd m1 List.not_mem_nil
    · exact Or.inr g
  · rcases h1.2.2.2 f hf i hi with g | ⟨o, -, m, m1, -⟩ | g
    · exact Or.inl g
    · exact absurd m1 List.not_mem_nil
    · exact Or.inr g
theorem aq_tokhB {e1 e2 : List am_E} (l1 : e1.length = ae_np) (l2 : e2.length = ae_np) {kd st vl : Int} (q : aq_tokh L xs (am_mX2 ap_b false e1 e2) kd st vl) : aq_tokh L xs e2 kd st vl := by
  unfold aq_tokh at q ⊢
  rw [aq_ciB l1 l2 rfl, aq_ciB l1 l2 rfl, aq_ciB l1 l2 rfl, aq_ciB l1 l2 rfl, aq_cjB l1 l2 rfl] at q
  exact q
/-- from a pair of runs: the reference's own part -/
theorem aq_endB {e1 e2 : List am_E} {t n p : Int} {d2 : Nat} {lw2 : am_L} (lA : hA.length = ae_np) (lB : hB.length = ae_np) (r2 : ap_run L xs ([(d2, 219, 0, lw2, [])], none) hB (none, e2)) (sm2 : ap_sm L xs true hB e2) (fr : ae_fr aq_mo L xs (am_mX2 ap_b false hA hB) (am_mX2 ap_b false e1 e2)) {v1 : Option Value} (Qc : aq_Qc L xs t n p v1 none e1 e2) :
    ∃ m, am_go L xs m d2 219 0 lw2 [] hB = some (none, e2) ∧ ae_hk true L xs e2 ∧ ap_sm L xs true hB e2 ∧ ae_fr [(219, 14, 19)] L xs hB e2 ∧ aq_ci L xs e2 219 16 = aq_ci L xs e1 3 7 ∧ aq_tokh L xs e2 (aq_ci L xs e1 5 t.toNat) (aq_ci L xs e1 6 t.toNat) (aq_cj L xs e1 7 t.toNat) := by
  obtain ⟨-, q1, q2, q3, q4, q5, q6, q7, q8, q9, q10, q11⟩ := Qc
  have l1 := q2.1.1
  have l2 := q3.1.1
  obtain ⟨m, g⟩ := r2
  refine ⟨m, g, aq_own_hk true (by rw [ap_mX_not]; exact q1) q3 l1, sm2, fun p j hin => ?_, ?_, ?_⟩
  · cases hs : am_sd ap_b true p with
    | false => exact sm2 p j hs
    | true =>
      have hs' : am_sd ap_b false p = false := by rw [show false = !true from rfl, ap_sd_not, hs]
      have h3 : ae_inm aq_mo p j = false := by
        cases hb : ae_inm aq_mo p j with
        | false => rfl
        | true =>
          obtain ⟨r, hr, h1⟩ := List.any_eq_true.mp hb
          have hr : r ∈ ([(3, 4, 4), (3, 7, 7), (5, 0, 900), (6, 0, 900), (7, 0, 900), (219, 14, 19)] : ae_Mo) := hr
          simp only [List.mem_cons, List.not_mem_nil, or_false] at hr
          have h2 := h1
          simp only [Bool.and_eq_true] at h2
          have h4 := Nat.eq_of_beq_eq_true h2.1.1
          rcases hr with rfl | rfl | rfl | rfl | rfl | rfl
          · rw [← h4] at hs'; exact absurd hs' (by decide)
          · rw [← h4] at hs'; exact absurd hs' (by decide)
          · rw [← h4] at hs'; exact absurd hs' (by decide)
          · rw [← h4] at hs'; exact absurd hs' (by decide)
          · rw [← h4] at hs'; exact absurd hs' (by decide)
          · have : ae_inm [(219, 14, 19)] p j = true := List.any_eq_true.mpr ⟨_, List.mem_singleton.mpr rfl, h1⟩
            rw [this] at hin
            cases hin
      have h4 := fr p j h3
      rw [ap_cx (s := false) l1 l2 hs', ap_cx (s := false) lA lB hs'] at h4
      exact h4
  · rw [aq_ciB l1 l2 rfl, aq_ciA l1 l2 rfl] at q7
    exact q7
  · rw [aq_ciA l1 l2 rfl, aq_ciA l1 l2 rfl, aq_cjA l1 l2 rfl] at q11
    exact aq_tokhB l1 l2 q11
theorem aq_cutA (hr : ae_rok = true) (hf : ae_fok = true) (hL : L ≤ 3072) {t n p : Int} {b : Nat → Option Value} (kA : ae_hk true L xs hA) (hb : ∀ j, j < 900 → ae_cell L xs hA 4 j = b j) (c1 : aq_ci L xs hA 3 4 = t) (c2 : aq_ci L xs hA 3 6 = n) (c3 : aq_ci L xs hA 3 7 = p) (r1 : 0 ≤ t ∧ t ≤ 900) (r2 : 0 ≤ p ∧ p ≤ n ∧ n ≤ 900) (gh : aq_gh L xs b n p) {d : Nat} {lw : am_L} (hd : 20 ≤ d) (l1 : am_lk lw 0 = some (.ref 3)) :
    ∃ (m : Nat) (r : Int32) (e1 : List am_E), am_go L xs m d 54 0 lw [] hA = some (some (.int r), e1) ∧ ae_hk true L xs e1 ∧ ap_sm L xs false hA e1 ∧ ae_fr [(3, 4, 4), (3, 7, 7), (5, 0, 900), (6, 0, 900), (7, 0, 900)] L xs hA e1 ∧ (r.toInt = 0 ∨ r.toInt = 1) ∧ (r.toInt = 0 ↔ (aq_ci L xs e1 5 t.toNat = 0 ∨ aq_ci L xs e1 5 t.toNat = 6)) ∧ aq_ci L xs e1 3 4 = t + 1 ∧ 0 ≤ aq_ci L xs e1 3 7 ∧ aq_ci L xs e1 3 7 ≤ n ∧ (aq_ci L xs e1 5 t.toNat ≠ 0 → p + 1 ≤ aq_ci L xs e1 3 7) ∧
      aq_nx L xs b n p (aq_ci L xs e1 5 t.toNat) (aq_ci L xs e1 6 t.toNat) (aq_cj L xs e1 7 t.toNat) (aq_ci L xs e1 3 7) ∧ (∀ j : Nat, (j : Int) < t → aq_ci L xs e1 5 j = aq_ci L xs hA 5 j ∧ aq_ci L xs e1 6 j = aq_ci L xs hA 6 j ∧ aq_cj L xs e1 7 j = aq_cj L xs hA 7 j) ∧ aq_gh L xs b n (aq_ci L xs e1 3 7) := by
  obtain ⟨hB, kB, gb, g9, g16⟩ := gh
  have at0 : ∀ {hB : List am_E}, ae_hk true L xs hB → (∀ j, j < 900 → ae_cell L xs hB 223 j = b j) → aq_ci L xs hB 219 9 = n → aq_ci L xs hB 219 16 = p → aq_at0 L xs hA hB t n p := fun k q1 q2 q3 => ⟨kA, k, fun j hj => (q1 j hj).trans (hb j hj).symm, c1, c2, c3, q2, q3, r1.1, r1.2, r2.1, r2.2.1, r2.2.2⟩
  obtain ⟨v1, e1, v2, e2, z1, z2, z3, z4, z5, z6⟩ := aq_cut hr hf hL (at0 kB gb g9 g16) (d2 := 20) (lw2 := [(0, .ref 219)]) hd (Nat.le_refl _) l1 rfl
  have z6' := z6
  obtain ⟨⟨y1, r, y2, y3, y4⟩, q1, q2, q3, q4, q5, q6, q7, q8, q9, q10, q11⟩ := z6
  subst y1; subst y2
  have la := q2.1.1
  have lb := q3.1.1
  rw [aq_ciA la lb rfl] at y4 q4 q8 q9 q10
  rw [aq_ciA la lb rfl] at q10
  obtain ⟨m, g⟩ := z1
  have k1 := aq_own_hk false q1 q2 lb
  refine ⟨m, r, e1, g, k1, z3, fun p' j hin => ?_, y3, y4, q4, q8, q9, q10, fun hB2 d2 lw2 k2 b2 n2 p2 hd2 l2 => ?_, fun j hj => ?_, ?_⟩
  · cases hs : am_sd ap_b false p' with
    | false => exact z3 p' j hs
    | true =>
      have h3 : ae_inm aq_mo p' j = false := by
        cases hb : ae_inm aq_mo p' j with
        | false => rfl
        | true =>
          obtain ⟨r, hr, h1⟩ := List.any_eq_true.mp hb
          have hr : r ∈ ([(3, 4, 4), (3, 7, 7), (5, 0, 900), (6, 0, 900), (7, 0, 900)] ++ [(219, 14, 19)] : ae_Mo) := hr
          rcases List.mem_append.mp hr with hr | hr
          · have : ae_inm [(3, 4, 4), (3, 7, 7), (5, 0, 900), (6, 0, 900), (7, 0, 900)] p' j = true := List.any_eq_true.mpr ⟨_, hr, h1⟩
            rw [this] at hin
            cases hin
          · rw [List.mem_singleton.mp hr] at h1
            simp only [Bool.and_eq_true] at h1
            rw [← Nat.eq_of_beq_eq_true h1.1.1] at hs
            exact absurd hs (by decide)
      have h4 := z5 p' j h3
      rw [ap_c (s := false) la lb hs, ap_c (s := false) kA.1.1 kB.1.1 hs] at h4
      exact h4
  · obtain ⟨v1', e1', v2', e2', w1, w2, w3, w4, w5, w6⟩ := aq_cut hr hf hL (at0 k2 b2 n2 p2) (d := d) (lw := lw) (d2 := d2) (lw2 := lw2) hd hd2 l1 l2
    obtain ⟨m', g'⟩ := w1
    have he := am_det g g'
    cases he
    have hv := w6.1.1
    subst hv
    obtain ⟨m2, x1, x2, x3, x4, x5, x6⟩ := aq_endB kA.1.1 k2.1.1 w2 w4 w5 w6
    exact ⟨m2, e2', x1, x2, x3, x4, x5, x6⟩
  · obtain ⟨v1', e1', v2', e2', w1, w2, w3, w4, w5, w6, w7, w8, w9⟩ := aq_cutj hr hf hL (at0 kB gb g9 g16) hj (d := d) (lw := lw) (d2 := 20) (lw2 := [(0, .ref 219)]) hd (Nat.le_refl _) l1 rfl
    obtain ⟨m', g'⟩ := w1
    have he := am_det g g'
    cases he
    have la' := w6.2.2.1.1.1
    have lb' := w6.2.2.2.1.1.1
    rw [aq_ciA la' lb' rfl] at w7 w8
    rw [aq_cjA la' lb' rfl] at w9
    exact ⟨w7, w8, w9⟩
  · obtain ⟨m2, x1, x2, x3, x4, x5, x6⟩ := aq_endB kA.1.1 kB.1.1 z2 z4 z5 z6'
    refine ⟨e2, x2, fun j hj => ?_, ?_, x5⟩
    · rw [x4 223 j (by show ae_inm [(219, 14, 19)] 223 j = false; rfl)]
      exact gb j hj
    · have := x4 219 9 (by decide)
      unfold aq_ci
      rw [this]
      exact g9
end AQN

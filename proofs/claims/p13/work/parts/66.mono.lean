theorem am_args_map (sa S : Nat) : ∀ (i : Nat) (vs : List Value), lv_args i (vs.map (am_sh sa S)) = (lv_args i vs).map (am_g sa S)
  | _, [] => rfl
  | i, v :: vs => by
    show (i, am_sh sa S v) :: lv_args (if (am_sh sa S v).category = 2 then i + 2 else i + 1) (vs.map (am_sh sa S)) = (i, am_sh sa S v) :: (lv_args (if v.category = 2 then i + 2 else i + 1) vs).map (am_g sa S)
    rw [am_sh_cat, am_args_map]
theorem am_lg_len (vs : List Value) : (lg_sl vs).length = am_cats vs := by
  induction vs with
  | nil => rfl
  | cons v t ih =>
    unfold lg_sl am_cats at *
    rw [List.flatMap_cons, List.length_append, ih, List.map_cons, List.sum_cons]
    congr 1
    cases v <;> rfl
theorem am_cats_map (sa S : Nat) (vs : List Value) : am_cats (vs.map (am_sh sa S)) = am_cats vs := am_cats_sh sa S vs
theorem am_cats_rev (vs : List Value) : am_cats vs.reverse = am_cats vs := by
  simp [am_cats]
theorem am_ret_h {i : Instr} {rk : Nat} {st : List Value} {h h' : List am_E} {r : Option Value} (e : am_ret i rk st h = some (r, h')) : h' = h := by
  unfold am_ret at e
  split at e
  · split at e
    · obtain ⟨-, e⟩ := am_if_eq e; cases e; rfl
    · cases e
  · split at e
    · obtain ⟨-, e⟩ := am_if_eq e; cases e; rfl
    · cases e
  · split at e
    · obtain ⟨-, e⟩ := am_if_eq e; cases e; rfl
    · cases e
  · cases e
theorem am_len_R {i : Instr} {b : Nat} (h : am_isR i = true) : am_len i b = 1 := by
  cases i <;> first | rfl | cases h
theorem am_len_C {i : Instr} {b : Nat} (h : am_isC i = true) : am_len i b = 3 := by
  cases i <;> first | rfl | cases h
theorem am_go_mono (L : Nat) (xs : Nat → Int32) : ∀ (n d y pc : Nat) (lv : am_L) (st : List Value) (h : List am_E) (r : Option Value) (h' : List am_E), am_go L xs n d y pc lv st h = some (r, h') → h.length ≤ h'.length ∧ am_sl h ≤ am_sl h' := by
  intro n
  induction n with
  | zero => intro d y pc lv st h r h' hgo; cases hgo
  | succ n ih =>
    intro d y pc lv st h r h' hgo
    rw [am_go_succ] at hgo
    obtain ⟨⟨i, a, b⟩, hc, hgo⟩ := am_bd hgo
    cases hR : am_isR i with
    | true =>
      have hg : am_ret i (am_inf y).2.2.2 st h = some (r, h') := by simpa [hR] using hgo
      rw [am_ret_h hg]
      exact ⟨Nat.le_refl _, Nat.le_refl _⟩
    | false =>
      cases hC : am_isC i with
      | true =>
        have hg : am_inv (am_go L xs n) d y i a b pc lv st h = some (r, h') := by simpa [hR, hC] using hgo
        unfold am_inv at hg
        cases hs : Nat.ble 1000 a with
        | true =>
          rw [hs] at hg
          obtain ⟨q, h1, hg⟩ := am_bd hg
          obtain ⟨h2, h3, hg⟩ := am_bd hg
          have h4 := am_app_len h3
          have h5 := ih _ _ _ _ _ _ _ _ hg
          exact ⟨Nat.le_trans h4.1 h5.1, Nat.le_trans h4.2 h5.2⟩
        | false =>
          rw [hs] at hg
          cases d with
          | zero => cases hg
          | succ d =>
            obtain ⟨hb, hg⟩ := am_if_eq hg
            obtain ⟨q, h1, hg⟩ := am_bd hg
            have h4 := ih _ _ _ _ _ _ _ _ h1
            have h5 := ih _ _ _ _ _ _ _ _ hg
            exact ⟨Nat.le_trans h4.1 h5.1, Nat.le_trans h4.2 h5.2⟩
      | false =>
        have hg : (am_simple L xs (am_inf y).1 (am_inf y).2.1 (am_inf y).2.2.1 i a b pc lv st h).bind (fun z => (am_app h z.2.2.2).bind fun h' => am_go L xs n d y z.1 z.2.1 z.2.2.1 h') = some (r, h') := by simpa [hR, hC] using hgo
        obtain ⟨q, h1, hg⟩ := am_bd hg
        obtain ⟨h2, h3, hg⟩ := am_bd hg
        have h4 := am_app_len h3
        have h5 := ih _ _ _ _ _ _ _ _ hg
        exact ⟨Nat.le_trans h4.1 h5.1, Nat.le_trans h4.2 h5.2⟩
theorem am_code5620 : am_code 56 20 = some (.ldc 87, 1001, 5) := rfl
theorem am_code_spec {y pc a b : Nat} {i : Instr} (h : am_code y pc = some (i, a, b)) : y < am_nM ∧ decode (am_bc y) pc = .ok (i, am_len i b) ∧ am_chk2 (am_inf y).1 pc i a b = true ∧ ∀ n, i = .ldc n → a < 1000 ∨ (y = 56 ∧ a = 1000 ∧ pc = 12) ∨ (y = 56 ∧ a = 1001 ∧ pc = 20 ∧ b = 5) := by
  have h0 := h
  unfold am_code at h
  cases hb : (Nat.blt y am_nM && Nat.blt pc (am_mx y)) with
  | false => rw [hb] at h; cases h
  | true =>
    rw [Bool.and_eq_true] at hb
    have hy := Nat.blt_eq.mp hb.1
    have h2 := am_D_ok hy (Nat.blt_eq.mp hb.2)
    unfold am_chk at h2
    rw [h0] at h2
    simp only [Bool.and_eq_true] at h2
    refine ⟨hy, of_decide_eq_true h2.1.1, h2.1.2, fun n hn => ?_⟩
    have h3 := h2.2
    rw [hn] at h3
    have h3 : (Nat.blt a 1000 || (Nat.beq y 56 && ((Nat.beq a 1000 && Nat.beq pc 12) || (Nat.beq a 1001 && Nat.beq pc 20)))) = true := h3
    simp only [Bool.or_eq_true, Bool.and_eq_true] at h3
    rcases h3 with h3 | ⟨h3, h4⟩
    · exact Or.inl (Nat.blt_eq.mp h3)
    · have e1 := Nat.eq_of_beq_eq_true h3
      rcases h4 with h4 | h4
      · exact Or.inr (Or.inl ⟨e1, Nat.eq_of_beq_eq_true h4.1, Nat.eq_of_beq_eq_true h4.2⟩)
      · have e2 := Nat.eq_of_beq_eq_true h4.1
        have e3 := Nat.eq_of_beq_eq_true h4.2
        rw [e1, e3, am_code5620] at h0
        cases h0
        exact Or.inr (Or.inr ⟨e1, rfl, e3, rfl⟩)
noncomputable abbrev am_ws (y : Nat) : List Cond := Cond.code (am_nm y) (am_bc y) (am_inf y).2.2.1 (am_rt y) :: am_G
noncomputable def am_rm (d k n : Nat) : Room := { frames := d + 4, cells := k, slots := n, locals := 100 * d + 400 }
noncomputable def am_Pr (sa S L : Nat) (xs : Nat → Int32) (dC : Nat → ClassId) (dI : Nat → Nat → Nat) (cT : Nat → ClassId) (vs : List Value) (h : List am_E) : Array Value → State → Prop := va_Pc (vs.map (am_sh sa S)) (fun U => U.heap.size = S + h.length ∧ va_P (dC, dI) vwCl (am_W sa S cT h) U.heap ∧ am_TB dC dI cT U ∧ am_XS sa S L xs U U.heap)
noncomputable def am_Po (sa S : Nat) (dC : Nat → ClassId) (dI : Nat → Nat → Nat) (cT : Nat → ClassId) (r : Option Value) (h' : List am_E) : Array Value → State → Outcome → State → Prop := fun _ st oc t => oc = .returned (r.map (am_sh sa S)) ∧ (t.heap.size = S + h'.length ∧ va_P (dC, dI) vwCl (am_W sa S cT h') t.heap) ∧ va_F (fun q => S ≤ q) st t
theorem am_TB.same {dC : Nat → ClassId} {dI : Nat → Nat → Nat} {cT : Nat → ClassId} {u U : State} (h : u.vm = U.vm) (k : am_TB dC dI cT u) : am_TB dC dI cT U :=
  ⟨va_K.moved (by rw [h]; exact Vm.Alike.refl U.vm) k.1, fun e he h2 => va_Nw.same rfl h (k.2.1 e he h2), fun t t1 t2 => va_AO.moved (by rw [h]; exact Vm.Alike.refl U.vm) (k.2.2 t t1 t2)⟩
theorem am_TB.warm {dC : Nat → ClassId} {dI : Nat → Nat → Nat} {cT : Nat → ClassId} {u U : State} (h : u.WarmedH U.vm) (k : am_TB dC dI cT u) : am_TB dC dI cT U :=
  ⟨va_K.moved h.alike k.1, fun e he h2 => va_Nw.warmM h (k.2.1 e he h2), fun t t1 t2 => va_AO.moved h.alike (k.2.2 t t1 t2)⟩
theorem am_blind (sa S L : Nat) (xs : Nat → Int32) (dC : Nat → ClassId) (dI : Nat → Nat → Nat) (cT : Nat → ClassId) (vs : List Value) (h : List am_E) : FrameBlind (am_Pr sa S L xs dC dI cT vs h) := by
  intro a U g mk q
  obtain ⟨q0, q1, q2, q3, q4⟩ := q
  exact ⟨q0, q1, q2, am_TB.same (u := U) (U := U.calling g mk a) rfl q3, am_XS.same (u := U) (U := U.calling g mk a) rfl q4⟩
theorem am_goodIn {y : Nat} (h : Cond.code (am_nm y) (am_bc y) (am_inf y).2.2.1 (am_rt y) ∈ lw_tbl) : GoodIn am_G (am_ws y) := by
  intro w hw
  have hg : w ∈ am_G := by
    rcases List.mem_cons.mp hw with rfl | hw
    · exact am_G_of h rfl
    · exact hw
  exact ⟨hg, good_of_word (List.mem_filter.mp hg).2⟩

/-! Writing, and making good what was written -/
noncomputable def ae_cat {α β : Type} (f : α → Option (List β)) : List α → Option (List β)
  | [] => some []
  | a :: t => (f a).bind fun x => (ae_cat f t).bind fun y => some (x ++ y)
theorem ae_cat_ok {α β : Type} {f : α → Option (List β)} : ∀ {l : List α} {o : List β} {a : α}, ae_cat f l = some o → a ∈ l → ∃ x, f a = some x ∧ ∀ b ∈ x, b ∈ o
  | [], _, _, _, h => absurd h List.not_mem_nil
  | c :: t, o, a, q, h => by
    obtain ⟨x, h1, q⟩ := Option.bind_eq_some_iff.mp q
    obtain ⟨y, h2, q⟩ := Option.bind_eq_some_iff.mp q
    cases q
    rcases List.mem_cons.mp h with rfl | h
    · exact ⟨x, h1, fun b hb => List.mem_append_left _ hb⟩
    · obtain ⟨z, g1, g2⟩ := ae_cat_ok h2 h
      exact ⟨z, g1, fun b hb => List.mem_append_right _ (g2 b hb)⟩
noncomputable def ae_hj (a : Option ae_I) (i : ae_I) : Option ae_I := a.bind fun q => bif Nat.beq q.1 i.1 then some (q.1, (bif ae_le q.2.1 i.2.1 then i.2.1 else q.2.1), bif ae_le i.2.2 q.2.2 then i.2.2 else q.2.2) else none
noncomputable def ae_hx (p a s : Nat) : Nat → Option ae_I
  | 0 => none
  | 1 => some (ae_ix p a)
  | n + 2 => ae_hj (ae_hx p a s (n + 1)) (ae_ix p (a + s * (n + 1)))
/-- what each of the cells that it may be holds -/
noncomputable def ae_hin (k : ae_K) (p : Nat) (e : ae_X) : Option ae_I := match ae_ua p with
  | some i => some i
  | none => (ae_js k e).bind fun q => ae_hx p q.1 q.2.1 q.2.2
theorem ae_hx_ok {p a s : Nat} : ∀ {n i : Nat} {z : ae_I}, ae_hx p a s n = some z → i < n → z.1 = (ae_ix p (a + s * i)).1 ∧ (ae_ix p (a + s * i)).2.1 ≤ z.2.1 ∧ z.2.2 ≤ (ae_ix p (a + s * i)).2.2
  | 0, _, _, _, h => absurd h (Nat.not_lt_zero _)
  | 1, i, z, q, h => by
    obtain rfl : i = 0 := by omega
    cases q
    exact ⟨rfl, Int.le_refl _, Int.le_refl _⟩
  | n + 2, i, z, q, h => by
    unfold ae_hx at q
    obtain ⟨w, h1, q⟩ := Option.bind_eq_some_iff.mp q
    generalize hI : ae_ix p (a + s * (n + 1)) = I at q
    cases hb : Nat.beq w.1 I.1 with
    | false => rw [hb] at q; cases q
    | true =>
      rw [hb] at q
      have hb := Nat.eq_of_beq_eq_true hb
      have l1 : w.2.1 ≤ (bif ae_le w.2.1 I.2.1 then I.2.1 else w.2.1) ∧ I.2.1 ≤ (bif ae_le w.2.1 I.2.1 then I.2.1 else w.2.1) := by
        cases h5 : ae_le w.2.1 I.2.1 with
        | true => exact ⟨ae_le_iff.mp h5, Int.le_refl _⟩
        | false =>
          refine ⟨Int.le_refl _, ?_⟩
          rcases Int.lt_or_le I.2.1 w.2.1 with h6 | h6
          · exact Int.le_of_lt h6
          · rw [ae_le_iff.mpr h6] at h5; cases h5
      have l2 : (bif ae_le I.2.2 w.2.2 then I.2.2 else w.2.2) ≤ w.2.2 ∧ (bif ae_le I.2.2 w.2.2 then I.2.2 else w.2.2) ≤ I.2.2 := by
        cases h5 : ae_le I.2.2 w.2.2 with
        | true => exact ⟨ae_le_iff.mp h5, Int.le_refl _⟩
        | false =>
          refine ⟨Int.le_refl _, ?_⟩
          rcases Int.lt_or_le w.2.2 I.2.2 with h6 | h6
          · exact Int.le_of_lt h6
          · rw [ae_le_iff.mpr h6] at h5; cases h5
      simp only [cond_true, Option.some.injEq] at q
      subst q
      rcases Nat.lt_or_ge i (n + 1) with h7 | h7
      · obtain ⟨g1, g2, g3⟩ := ae_hx_ok h1 h7
        exact ⟨g1, Int.le_trans g2 l1.1, Int.le_trans l2.1 g3⟩
      · obtain rfl : i = n + 1 := by omega
        rw [hI]
        exact ⟨hb, l1.2, l2.2⟩
noncomputable def ae_wi (k : ae_K) (a : ae_V) (i : ae_I) : Bool := (Nat.beq a.1 0 || Nat.beq a.1 1) && Nat.beq i.1 a.1 && ae_rg k a.2.2 i.2.1 i.2.2
theorem ae_wi_ok {ρ : Nat → Int} {k : ae_K} (h : ae_okK ρ k) {a : ae_V} {v : Value} {i z : ae_I} (hv : ae_ok k.1 ρ a v) (q : ae_wi k a z = true) (hz : z.1 = i.1 ∧ i.2.1 ≤ z.2.1 ∧ z.2.2 ≤ i.2.2) : ae_io i v := by
  unfold ae_wi at q
  simp only [Bool.and_eq_true, Bool.or_eq_true] at q
  obtain ⟨⟨q1, q2⟩, q3⟩ := q
  have h2 := Nat.eq_of_beq_eq_true q2
  have h3 := ae_rg_ok h q3
  obtain ⟨z1, z2, z3⟩ := hz
  unfold ae_io
  rw [← z1, h2]
  rcases q1 with q1 | q1
  · have q1 := Nat.eq_of_beq_eq_true q1
    unfold ae_ok at hv
    rw [q1] at hv ⊢
    obtain ⟨x, g1, g2⟩ := hv
    rw [g2.2] at h3
    exact ⟨x, g1, Int.le_trans z2 h3.1, Int.le_trans h3.2 z3⟩
  · have q1 := Nat.eq_of_beq_eq_true q1
    unfold ae_ok at hv
    rw [q1] at hv ⊢
    obtain ⟨x, g1, g2⟩ := hv
    rw [g2.2] at h3
    exact ⟨x, g1, Int.le_trans z2 h3.1, Int.le_trans h3.2 z3⟩
noncomputable def ae_oi (k : ae_K) (p : Nat) (e : ae_X) (a : ae_V) : Bool := match ae_hin k p e with
  | some i => ae_wi k a i
  | none => false
theorem ae_oi_ok {ρ : Nat → Int} {k : ae_K} (h : ae_okK ρ k) {p j : Nat} {e : ae_X} {a : ae_V} {v : Value} (he : ae_ev ρ e = (j : Int)) (hv : ae_ok k.1 ρ a v) (q : ae_oi k p e a = true) : ae_io (ae_iv p j) v := by
  unfold ae_oi at q
  split at q
  · rename_i z hz
    refine ae_wi_ok h hv q ?_
    unfold ae_hin at hz
    unfold ae_iv
    split at hz
    · rename_i i hi
      cases hz
      rw [hi]
      exact ⟨rfl, Int.le_refl _, Int.le_refl _⟩
    · rename_i hi
      rw [hi]
      obtain ⟨⟨a1, s, n⟩, h1, hz⟩ := Option.bind_eq_some_iff.mp hz
      obtain ⟨i, h2, h3⟩ := ae_js_ok h he h1
      rw [h3]
      exact ae_hx_ok hz h2
  · cases q
/-- a clause may have this cell -/
noncomputable def ae_tc (k : ae_K) (p : Nat) (e : ae_X) : Bool := (ae_ffe k p e).any fun f => Nat.beq f.1 p && (ae_of f.2.2.2.2.2).any fun o => !(ae_cn k e f o)
noncomputable def ae_inm (mo : ae_Mo) (p j : Nat) : Bool := mo.any fun r => Nat.beq r.1 p && ae_le r.2.1 (j : Int) && ae_le (j : Int) r.2.2
noncomputable def ae_fr (mo : ae_Mo) (L : Nat) (xs : Nat → Int32) (h h' : List am_E) : Prop := ∀ p j, ae_inm mo p j = false → ae_cell L xs h' p j = ae_cell L xs h p j
theorem ae_fr_rf (mo : ae_Mo) (L : Nat) (xs : Nat → Int32) (h : List am_E) : ae_fr mo L xs h h := fun _ _ _ => rfl
theorem ae_fr_tr {mo : ae_Mo} {L : Nat} {xs : Nat → Int32} {a b c : List am_E} (h : ae_fr mo L xs a b) (g : ae_fr mo L xs b c) : ae_fr mo L xs a c := fun p j q => (g p j q).trans (h p j q)
noncomputable def ae_im (k : ae_K) (mo : ae_Mo) (p : Nat) (e : ae_X) : Bool := ai_any (fun r => bif Nat.beq r.1 p then ae_rg k e r.2.1 r.2.2 else false) mo
theorem ae_im_ok {ρ : Nat → Int} {k : ae_K} (h : ae_okK ρ k) {mo : ae_Mo} {p j : Nat} {e : ae_X} (he : ae_ev ρ e = (j : Int)) (q : ae_im k mo p e = true) : ae_inm mo p j = true := by
  unfold ae_im at q
  rw [ai_any_e] at q
  obtain ⟨r, hr, q⟩ := List.any_eq_true.mp q
  have q := ai_bif (show (bif Nat.beq r.1 p then ae_rg k e r.2.1 r.2.2 else false) = true from q)
  have h1 := ae_rg_ok h q.2
  rw [he] at h1
  refine List.any_eq_true.mpr ⟨r, hr, ?_⟩
  rw [q.1, ae_le_iff.mpr h1.1, ae_le_iff.mpr h1.2]; rfl
/-- one cell is another one -/
noncomputable def ae_wr (L : Nat) (xs : Nat → Int32) (h h' : List am_E) (p j : Nat) (v : Value) : Prop := ae_shp h' ∧ ae_cell L xs h' p j = some v ∧ ∀ q i, ¬ (q = p ∧ i = j) → ae_cell L xs h' q i = ae_cell L xs h q i
noncomputable def ae_kp (k : ae_K) (p : Nat) (e : ae_X) (m : ae_M) : Bool := !(Nat.beq m.1 p) || ae_ds k m.2.1 e
noncomputable def ae_s1 (ex : Bool) (mo : ae_Mo) (k : ae_K) (M : List ae_M) (p : Nat) (e : ae_X) (a : ae_V) : Option (List ae_M) :=
  bif ae_im k mo p e && (!ex || ae_nx k p e) && ai_all (fun m => ae_kp k p e m || !m.2.2.2 || ae_xe m.2.1 e) M then some ((p, e, a, ae_tc k p e || !(ae_oi k p e a)) :: ai_flt (ae_kp k p e) M) else none
theorem ae_ls_eq {L : Nat} {xs : Nat → Int32} {h h' : List am_E} {p b : Nat} : ∀ {l : List (Nat × Int)}, (∀ t ∈ l, ae_cell L xs h' p (b + t.1) = ae_cell L xs h p (b + t.1)) → ae_ls L xs h' p b l = ae_ls L xs h p b l
  | [], _ => rfl
  | t :: r, q => by
    show t.2 * ae_iz (ae_cell L xs h' p (b + t.1)) + ae_ls L xs h' p b r = t.2 * ae_iz (ae_cell L xs h p (b + t.1)) + ae_ls L xs h p b r
    rw [q t List.mem_cons_self, ae_ls_eq (fun u hu => q u (List.mem_cons_of_mem _ hu))]
theorem ae_cl_eq {L : Nat} {xs : Nat → Int32} {h h' : List am_E} {p b : Nat} {ls : List (Int × List (Nat × Int))} (q : ∀ o ∈ ae_of ls, ae_cell L xs h' p (b + o) = ae_cell L xs h p (b + o)) (c : ae_cl L xs h p b ls) : ae_cl L xs h' p b ls := by
  obtain ⟨l, hl, h1⟩ := c
  refine ⟨l, hl, ?_⟩
  rw [ae_ls_eq (fun t ht => q t.1 (List.mem_flatMap.mpr ⟨l, hl, List.mem_map.mpr ⟨t, ht, rfl⟩⟩))]
  exact h1
section AES
variable {ex : Bool} {ρ : Nat → Int} {k : ae_K} {L : Nat} {xs : Nat → Int32} {M : List ae_M} {h h' : List am_E}
theorem ae_s1_ok {mo : ae_Mo} {M' : List ae_M} {p j : Nat} {e : ae_X} {a : ae_V} {v : Value} (hK : ae_okK ρ k) (hH : ae_hp ex k.1 ρ L xs M h) (he : ae_dn k.1 ρ e (j : Int)) (hw : ae_wr L xs h h' p j v) (hv : ae_ok k.1 ρ a v) (q : ae_s1 ex mo k M p e a = some M') : ae_hp ex k.1 ρ L xs M' h' ∧ ae_fr mo L xs h h' := by
  unfold ae_s1 at q
  rw [ai_all_e, ai_flt_e] at q
  generalize hc : (ae_im k mo p e && (!ex || ae_nx k p e) && M.all (fun m => ae_kp k p e m || !m.2.2.2 || ae_xe m.2.1 e)) = c at q
  cases c with
  | false => cases q
  | true =>
    cases q
    simp only [Bool.and_eq_true] at hc
    obtain ⟨⟨c1, c2⟩, c3⟩ := hc
    have hj := ae_im_ok hK he.2 c1
    have hkeep : ∀ m ∈ M, ae_kp k p e m = true → ∀ i : Nat, ae_ev ρ m.2.1 = (i : Int) → ¬ (m.1 = p ∧ i = j) := by
      intro m _ hm i hi ⟨g1, g2⟩
      unfold ae_kp at hm
      rw [g1, Nat.beq_refl] at hm
      exact ae_ds_ok hK hm (by rw [hi, he.2, g2])
    have hdy : ∀ q' i, ¬ (q' = p ∧ i = j) → ae_dy ρ M q' i → ae_dy ρ ((p, e, a, ae_tc k p e || !(ae_oi k p e a)) :: M.filter (ae_kp k p e)) q' i := by
      intro q' i hne ⟨m, m1, m2, m3, m4⟩
      have h1 := List.all_eq_true.mp c3 m m1
      rw [m2] at h1
      simp only [Bool.not_true, Bool.or_false, Bool.or_eq_true] at h1
      rcases h1 with h1 | h1
      · exact ⟨m, List.mem_cons_of_mem _ (List.mem_filter.mpr ⟨m1, h1⟩), m2, m3, m4⟩
      · have h2 := ae_xe_ok h1
        cases hb : ae_kp k p e m with
        | true => exact ⟨m, List.mem_cons_of_mem _ (List.mem_filter.mpr ⟨m1, hb⟩), m2, m3, m4⟩
        | false =>
          unfold ae_kp at hb
          simp only [Bool.or_eq_false_iff, Bool.not_eq_false'] at hb
          have h3 := Nat.eq_of_beq_eq_true hb.1
          rw [h2, he.2] at m4
          exact absurd ⟨m3.symm.trans h3, by omega⟩ hne
    refine ⟨⟨hw.1, fun m hm => ?_, fun q' i v' hq hc' => ?_, fun f hf i hi => ?_⟩, fun q' i hq => hw.2.2 q' i (fun ⟨g1, g2⟩ => by rw [g1, g2, hj] at hq; cases hq)⟩
    · rcases List.mem_cons.mp hm with rfl | hm
      · exact ⟨j, v, he, hw.2.1, hv⟩
      · obtain ⟨hm1, hm2⟩ := List.mem_filter.mp hm
        obtain ⟨i, w, g1, g2, g3⟩ := hH.2.1 m hm1
        exact ⟨i, w, g1, by rw [hw.2.2 m.1 i (hkeep m hm1 hm2 i g1.2)]; exact g2, g3⟩
    · by_cases hne : q' = p ∧ i = j
      · obtain ⟨rfl, rfl⟩ := hne
        rw [hw.2.1] at hc'
        cases hc'
        cases hb : ae_oi k q' e a with
        | true => exact Or.inl (ae_oi_ok hK he.2 hv hb)
        | false => exact Or.inr (Or.inl ⟨_, List.mem_cons_self, by show (ae_tc k q' e || !false) = true; simp, rfl, he.2⟩)
      · rw [hw.2.2 q' i hne] at hc'
        rcases hH.2.2.1 q' i v' hq hc' with g | g | g
        · exact Or.inl g
        · exact Or.inr (Or.inl (hdy q' i hne g))
        · exact Or.inr (Or.inr g)
    · by_cases ht : f.1 = p ∧ ∃ o ∈ ae_of f.2.2.2.2.2, f.2.1 + f.2.2.1 * i + o = j
      · obtain ⟨g1, o, ho, g2⟩ := ht
        have htc : ae_tc k p e = true := by
          refine List.any_eq_true.mpr ⟨f, ae_ffe_mem hK hf g1 ho hi (he.2.trans (by rw [g2])), ?_⟩
          rw [g1, Nat.beq_refl, Bool.true_and]
          refine List.any_eq_true.mpr ⟨o, ho, ?_⟩
          cases hb : ae_cn k e f o with
          | true => exact absurd g2.symm (ae_cn_ok hK he.2 hb i hi)
          | false => rfl
        exact Or.inr (Or.inl ⟨o, ho, _, List.mem_cons_self, by rw [htc]; rfl, g1.symm, by rw [g2]; exact he.2⟩)
      · have hsame : ∀ o ∈ ae_of f.2.2.2.2.2, ¬ (f.1 = p ∧ f.2.1 + f.2.2.1 * i + o = j) := fun o ho g => ht ⟨g.1, o, ho, g.2⟩
        rcases hH.2.2.2 f hf i hi with g | ⟨o, ho, g⟩ | g
        · exact Or.inl (ae_cl_eq (fun o ho => hw.2.2 _ _ (hsame o ho)) g)
        · exact Or.inr (Or.inl ⟨o, ho, hdy _ _ (hsame o ho) g⟩)
        · exact Or.inr (Or.inr g)
/-- readings of several cells of one place -/
noncomputable def ae_pl (ex : Bool) (p : Nat) : List ae_X → ae_K → List ae_M → Option (ae_K × List ae_M)
  | [], k, M => some (k, M)
  | e :: r, k, M => (ae_ld ex k M p e).bind fun q => ae_pl ex p r q.1 q.2.1
/-- ahead of a write into a clause of one sum: its cells are read -/
noncomputable def ae_pq (ex : Bool) (p : Nat) (e : ae_X) (f : ae_Fm) : List Nat → ae_K → List ae_M → Option (ae_K × List ae_M)
  | [], k, M => some (k, M)
  | o :: r, k, M => match ae_ci k e f o with
    | none => ae_pq ex p e f r k M
    | some b => (ae_pl ex p ((ae_of f.2.2.2.2.2).map fun o : Nat => ae_pls b (o : Int)) k M).bind fun q => ae_pq ex p e f r q.1 q.2
noncomputable def ae_sin (ls : List (Int × List (Nat × Int))) : Bool := match ls with
  | [_] => true
  | _ => false
noncomputable def ae_pt (ex : Bool) (p : Nat) (e : ae_X) : List ae_Fm → ae_K → List ae_M → Option (ae_K × List ae_M)
  | [], k, M => some (k, M)
  | f :: r, k, M => bif Nat.beq f.1 p && ae_sin f.2.2.2.2.2 && !(ex && f.2.2.2.2.1) then (ae_pq ex p e f (ae_of f.2.2.2.2.2) k M).bind fun q => ae_pt ex p e r q.1 q.2 else ae_pt ex p e r k M
theorem ae_pl_ok (hr : ae_rok = true) {p : Nat} (hp : 0 < p ∧ p ≤ ae_np) : ∀ {es : List ae_X} {ρ : Nat → Int} {k k' : ae_K} {M M' : List ae_M}, ae_okK ρ k → ae_hp ex k.1 ρ L xs M h → (∀ e ∈ es, ∃ j : Nat, ae_dn k.1 ρ e (j : Int) ∧ j < (ae_sh p).2.2) → ae_pl ex p es k M = some (k', M') → ∃ ρ', ae_up2 ρ k ρ' k' ∧ ae_hp ex k'.1 ρ' L xs M' h
  | [], ρ, k, k', M, M', hK, hH, _, q => by cases q; exact ⟨ρ, ⟨Nat.le_refl _, ae_ag_rf _ _, hK⟩, hH⟩
  | e :: r, ρ, k, k', M, M', hK, hH, he, q => by
    obtain ⟨⟨k1, M1, a1⟩, h1, q⟩ := Option.bind_eq_some_iff.mp q
    obtain ⟨j, g1, g2⟩ := he e List.mem_cons_self
    obtain ⟨v, hv⟩ := ae_cell_ex (L := L) (xs := xs) hH.1 hp.1 hp.2 g2
    obtain ⟨ρ1, u1, H1, -⟩ := ae_ld_ok hr hK hH g1 hv (fun _ => ⟨hp.2, g2⟩) h1
    obtain ⟨ρ2, u2, H2⟩ := ae_pl_ok hr hp (es := r) u1.2.2 H1 (fun e' he' => by
      obtain ⟨j', g3, g4⟩ := he e' (List.mem_cons_of_mem _ he')
      exact ⟨j', ae_dn_ext u1.1 u1.2.1 g3, g4⟩) q
    exact ⟨ρ2, u1.tr u2, H2⟩
theorem ae_fok_at (hf : ae_fok = true) {f : ae_Fm} (hm : f ∈ ae_fam) : 0 < f.2.2.1 ∧ 0 < f.1 ∧ f.1 ≤ ae_np ∧ ∀ o ∈ ae_of f.2.2.2.2.2, ∀ i, i < f.2.2.2.1 → f.2.1 + f.2.2.1 * i + o < (ae_sh f.1).2.2 ∧ ae_ine f.1 (f.2.1 + f.2.2.1 * i + o) = f.2.2.2.2.1 := by
  have h1 := List.all_eq_true.mp hf f hm
  simp only [Bool.and_eq_true] at h1
  obtain ⟨⟨⟨a, b⟩, c⟩, d⟩ := h1
  refine ⟨Nat.blt_eq.mp a, Nat.blt_eq.mp b, Nat.le_of_ble_eq_true c, fun o ho i hi => ?_⟩
  have h2 := List.all_eq_true.mp (List.all_eq_true.mp d o ho) i (List.mem_range.mpr hi)
  rw [Bool.and_eq_true] at h2
  refine ⟨Nat.blt_eq.mp h2.1, ?_⟩
  have h3 := h2.2
  cases hb : f.2.2.2.2.1 with
  | true => rw [hb] at h3; exact h3
  | false =>
    rw [hb] at h3
    cases hz : ae_ine f.1 (f.2.1 + f.2.2.1 * i + o) with
    | true => rw [hz] at h3; cases h3
    | false => rfl
theorem ae_pq_ok (hr : ae_rok = true) (hf : ae_fok = true) {p j : Nat} {e : ae_X} {f : ae_Fm} (hm : f ∈ ae_fam) (hfp : f.1 = p) : ∀ {os : List Nat} {ρ : Nat → Int} {k k' : ae_K} {M M' : List ae_M}, ae_okK ρ k → ae_hp ex k.1 ρ L xs M h → ae_dn k.1 ρ e (j : Int) → ae_pq ex p e f os k M = some (k', M') → ∃ ρ', ae_up2 ρ k ρ' k' ∧ ae_hp ex k'.1 ρ' L xs M' h
  | [], ρ, k, k', M, M', hK, hH, _, q => by cases q; exact ⟨ρ, ⟨Nat.le_refl _, ae_ag_rf _ _, hK⟩, hH⟩
  | o :: r, ρ, k, k', M, M', hK, hH, he, q => by
    unfold ae_pq at q
    split at q
    · exact ae_pq_ok hr hf hm hfp (os := r) hK hH he q
    · rename_i b hb
      obtain ⟨⟨k1, M1⟩, h1, q⟩ := Option.bind_eq_some_iff.mp q
      obtain ⟨f1, f2, f3, f4⟩ := ae_fok_at hf hm
      obtain ⟨i, g1, g2, g3⟩ := ae_ci_ok hK f1 he hb
      subst hfp
      obtain ⟨ρ1, u1, H1⟩ := ae_pl_ok hr ⟨f2, f3⟩ hK hH (fun e' he' => by
        obtain ⟨o', ho', rfl⟩ := List.mem_map.mp he'
        refine ⟨f.2.1 + f.2.2.1 * i + o', ?_, (f4 o' ho' i g1).1⟩
        have := ae_pls_dn g3 (o' : Int)
        have e1 : ((f.2.1 + f.2.2.1 * i : Nat) : Int) + (o' : Int) = ((f.2.1 + f.2.2.1 * i + o' : Nat) : Int) := by omega
        rwa [e1] at this) h1
      obtain ⟨ρ2, u2, H2⟩ := ae_pq_ok hr hf hm rfl (os := r) u1.2.2 H1 (ae_dn_ext u1.1 u1.2.1 he) q
      exact ⟨ρ2, u1.tr u2, H2⟩
theorem ae_pt_ok (hr : ae_rok = true) (hf : ae_fok = true) {p j : Nat} {e : ae_X} : ∀ {fs : List ae_Fm} {ρ : Nat → Int} {k k' : ae_K} {M M' : List ae_M}, (∀ f ∈ fs, f ∈ ae_fam) → ae_okK ρ k → ae_hp ex k.1 ρ L xs M h → ae_dn k.1 ρ e (j : Int) → ae_pt ex p e fs k M = some (k', M') → ∃ ρ', ae_up2 ρ k ρ' k' ∧ ae_hp ex k'.1 ρ' L xs M' h
  | [], ρ, k, k', M, M', _, hK, hH, _, q => by cases q; exact ⟨ρ, ⟨Nat.le_refl _, ae_ag_rf _ _, hK⟩, hH⟩
  | f :: r, ρ, k, k', M, M', hm, hK, hH, he, q => by
    unfold ae_pt at q
    cases hb : (Nat.beq f.1 p && ae_sin f.2.2.2.2.2 && !(ex && f.2.2.2.2.1)) with
    | false =>
      rw [hb] at q
      exact ae_pt_ok hr hf (fs := r) (fun g hg => hm g (List.mem_cons_of_mem _ hg)) hK hH he q
    | true =>
      rw [hb] at q
      simp only [Bool.and_eq_true] at hb
      obtain ⟨⟨k1, M1⟩, h1, q⟩ := Option.bind_eq_some_iff.mp q
      obtain ⟨ρ1, u1, H1⟩ := ae_pq_ok hr hf (hm f List.mem_cons_self) (Nat.eq_of_beq_eq_true hb.1.1) hK hH he h1
      obtain ⟨ρ2, u2, H2⟩ := ae_pt_ok hr hf (fs := r) (fun g hg => hm g (List.mem_cons_of_mem _ hg)) u1.2.2 H1 (ae_dn_ext u1.1 u1.2.1 he) q
      exact ⟨ρ2, u1.tr u2, H2⟩
noncomputable def ae_st (ex : Bool) (mo : ae_Mo) (k : ae_K) (M : List ae_M) (p : Nat) (e0 : ae_X) (a : ae_V) : Option (List (ae_K × List ae_M)) :=
  bif ae_tc k p (ae_nr k e0) then (ae_pt ex p (ae_nr k e0) (ae_ffe k p (ae_nr k e0)) k M).bind fun q => ae_cat (fun k' => (ae_s1 ex mo k' q.2 p (ae_nr k e0) a).bind fun M' => some [(k', M')]) (ae_fks ex q.1 q.2 p (ae_nr k e0))
  else (ae_s1 ex mo k M p (ae_nr k e0) a).bind fun M' => some [(k, M')]
theorem ae_st_ok (hr : ae_rok = true) (hf : ae_fok = true) {mo : ae_Mo} {p j : Nat} {e0 : ae_X} {a : ae_V} {v : Value} {o : List (ae_K × List ae_M)} (hK : ae_okK ρ k) (hH : ae_hp ex k.1 ρ L xs M h) (he0 : ae_dn k.1 ρ e0 (j : Int)) (hw : ae_wr L xs h h' p j v) (hv : ae_ok k.1 ρ a v) (q : ae_st ex mo k M p e0 a = some o) : ∃ z ∈ o, ∃ ρ', ae_up2 ρ k ρ' z.1 ∧ ae_hp ex z.1.1 ρ' L xs z.2 h' ∧ ae_fr mo L xs h h' := by
  have he := ae_nr_dn hK he0
  unfold ae_st at q
  generalize ae_nr k e0 = e at he q
  cases hb : ae_tc k p e with
  | false =>
    rw [hb] at q
    obtain ⟨M', h1, q⟩ := Option.bind_eq_some_iff.mp q
    cases q
    obtain ⟨H1, F1⟩ := ae_s1_ok hK hH he hw hv h1
    exact ⟨_, List.mem_singleton.mpr rfl, ρ, ⟨Nat.le_refl _, ae_ag_rf _ _, hK⟩, H1, F1⟩
  | true =>
    rw [hb] at q
    obtain ⟨⟨k1, M1⟩, h1, q⟩ := Option.bind_eq_some_iff.mp q
    obtain ⟨ρ1, u1, H1⟩ := ae_pt_ok hr hf (fun _ h => ae_ffe_sub h) hK hH he h1
    have he1 := ae_dn_ext u1.1 u1.2.1 he
    obtain ⟨k2, m2, K2, n2⟩ := ae_fks_ok hf he1 u1.2.2 H1
    obtain ⟨x, g1, g2⟩ := ae_cat_ok q m2
    obtain ⟨M', h3, g1⟩ := Option.bind_eq_some_iff.mp g1
    cases g1
    have n2' : k2.1 = k1.1 := n2
    obtain ⟨H3, F3⟩ := ae_s1_ok K2 (by rw [n2']; exact H1) (by rw [n2']; exact he1) hw (by rw [n2']; exact ae_ok_ext u1.1 u1.2.1 hv) h3
    exact ⟨_, g2 _ (List.mem_singleton.mpr rfl), ρ1, ⟨by rw [n2']; exact u1.1, u1.2.1, K2⟩, H3, F3⟩
/-! what was written keeps the invariant again -/
noncomputable def ae_vl (k : ae_K) (M : List ae_M) (p : Nat) (b : ae_X) (l : Int × List (Nat × Int)) : Bool := match ae_lx false k M p b l.2 with
  | some w => ae_z k (ae_pls w l.1)
  | none => false
noncomputable def ae_vo (k : ae_K) (M : List ae_M) (p : Nat) (e : ae_X) (f : ae_Fm) (o : Nat) : Bool := ae_cn k e f o || (match ae_ci k e f o with
  | some b => f.2.2.2.2.2.any (ae_vl k M p b)
  | none => false)
noncomputable def ae_vc (k : ae_K) (M : List ae_M) (p : Nat) (e : ae_X) : Bool := (ae_ffe k p e).all fun f => !(Nat.beq f.1 p) || (ae_of f.2.2.2.2.2).all (ae_vo k M p e f)
noncomputable def ae_vm (cx : Bool) (k : ae_K) (M : List ae_M) (m : ae_M) : Bool := !m.2.2.2 || (cx && ae_yx k m.1 m.2.1) || (ae_oi k m.1 m.2.1 m.2.2.1 && ae_vc k M m.1 m.2.1)
noncomputable def ae_vn (cx : Bool) (k : ae_K) (m : ae_M) : ae_M := (m.1, m.2.1, m.2.2.1, m.2.2.2 && (cx && ae_yx k m.1 m.2.1))
noncomputable def ae_vd (cx : Bool) (k : ae_K) (M : List ae_M) : Option (List ae_M) := bif ai_all (ae_vm cx k M) M then some (ai_map (ae_vn cx k) M) else none
theorem ae_vd_ok (hf : ae_fok = true) {cx : Bool} {M' : List ae_M} (hK : ae_okK ρ k) (hH : ae_hp ex k.1 ρ L xs M h) (q : ae_vd cx k M = some M') : ae_hp ex k.1 ρ L xs M' h ∧ ∀ p j, ae_dy ρ M' p j → cx = true ∧ ae_ine p j = true := by
  unfold ae_vd at q
  rw [ai_all_e, ai_map_e] at q
  cases hb : M.all (ae_vm cx k M) with
  | false => rw [hb] at q; cases q
  | true =>
    rw [hb] at q
    cases q
    have hdy : ∀ m ∈ M, m.2.2.2 = true → (cx && ae_yx k m.1 m.2.1) = true → ∀ j : Nat, ae_ev ρ m.2.1 = (j : Int) → ae_dy ρ (M.map (ae_vn cx k)) m.1 j := by
      intro m m1 m2 m3 j m4
      exact ⟨ae_vn cx k m, List.mem_map.mpr ⟨m, m1, rfl⟩, by show (m.2.2.2 && (cx && ae_yx k m.1 m.2.1)) = true; rw [m2, m3]; rfl, rfl, m4⟩
    refine ⟨⟨hH.1, fun m hm => ?_, fun p j v hp hc => ?_, fun f hfm i hi => ?_⟩, fun p j hd => ?_⟩
    · obtain ⟨m', hm', rfl⟩ := List.mem_map.mp hm
      exact hH.2.1 m' hm'
    · rcases hH.2.2.1 p j v hp hc with g | ⟨m, m1, m2, m3, m4⟩ | g
      · exact Or.inl g
      · have h1 := List.all_eq_true.mp hb m m1
        unfold ae_vm at h1
        rw [m2] at h1
        simp only [Bool.not_true, Bool.false_or, Bool.or_eq_true] at h1
        rcases h1 with h1 | h1
        · have := hdy m m1 m2 h1 j m4
          rw [m3] at this
          exact Or.inr (Or.inl this)
        · rw [Bool.and_eq_true] at h1
          obtain ⟨i, w, g1, g2, g3⟩ := hH.2.1 m m1
          have hij : i = j := by have := g1.2; rw [m4] at this; omega
          subst hij
          rw [m3, hc] at g2
          cases g2
          rw [← m3]
          exact Or.inl (ae_oi_ok hK m4 g3 h1.1)
      · exact Or.inr (Or.inr g)
    · rcases hH.2.2.2 f hfm i hi with g | ⟨o, ho, m, m1, m2, m3, m4⟩ | g
      · exact Or.inl g
      · have h1 := List.all_eq_true.mp hb m m1
        unfold ae_vm at h1
        rw [m2] at h1
        simp only [Bool.not_true, Bool.false_or, Bool.or_eq_true] at h1
        rcases h1 with h1 | h1
        · have := hdy m m1 m2 h1 _ m4
          rw [m3] at this
          exact Or.inr (Or.inl ⟨o, ho, this⟩)
        · rw [Bool.and_eq_true] at h1
          have h2 := List.all_eq_true.mp h1.2 f (ae_ffe_mem hK hfm m3.symm ho hi m4)
          rw [m3, Nat.beq_refl] at h2
          have h3 := List.all_eq_true.mp (show (ae_of f.2.2.2.2.2).all (ae_vo k M f.1 m.2.1 f) = true from h2) o ho
          unfold ae_vo at h3
          rw [Bool.or_eq_true] at h3
          obtain ⟨i0, w, g1, g2, g3⟩ := hH.2.1 m m1
          have hi0 : (i0 : Int) = ((f.2.1 + f.2.2.1 * i + o : Nat) : Int) := by rw [← m4, g1.2]
          rw [hi0] at g1
          rcases h3 with h3 | h3
          · exact absurd rfl (ae_cn_ok hK m4 h3 i hi)
          · split at h3
            · rename_i b hbb
              obtain ⟨f1, f2, f3, f4⟩ := ae_fok_at hf hfm
              obtain ⟨i', q1, q2, q3⟩ := ae_ci_ok hK f1 g1 hbb
              have hii : i' = i := by
                have h5 : f.2.2.1 * i' = f.2.2.1 * i := by omega
                exact Nat.eq_of_mul_eq_mul_left f1 h5
              subst hii
              obtain ⟨l, hl, h4⟩ := List.any_eq_true.mp h3
              unfold ae_vl at h4
              split at h4
              · rename_i w hw
                obtain ⟨z1, -⟩ := ae_lx_ok hK hH q3 hw
                have h5 := ae_z_ok hK h4
                rw [ae_pls_ev, z1.2] at h5
                exact Or.inl ⟨l, hl, by omega⟩
              · cases h4
            · cases h3
      · exact Or.inr (Or.inr g)
    · obtain ⟨m, m1, m2, m3, m4⟩ := hd
      obtain ⟨m', hm', rfl⟩ := List.mem_map.mp m1
      have m2 : (m'.2.2.2 && (cx && ae_yx k m'.1 m'.2.1)) = true := m2
      simp only [Bool.and_eq_true] at m2
      have m3 : m'.1 = p := m3
      refine ⟨m2.2.1, ?_⟩
      rw [← m3]
      exact ae_yx_ok hK m4 m2.2.2
end AES
/-- the invariant, but for the cells that are left out -/
noncomputable def ae_hk (cx : Bool) (L : Nat) (xs : Nat → Int32) (h : List am_E) : Prop :=
  ae_shp h ∧ (∀ p j v, 0 < p → ae_cell L xs h p j = some v → ae_io (ae_iv p j) v ∨ (cx = true ∧ ae_ine p j = true)) ∧
  (∀ f ∈ ae_fam, ∀ i, i < f.2.2.2.1 → ae_cl L xs h f.1 (f.2.1 + f.2.2.1 * i) f.2.2.2.2.2 ∨ (cx = true ∧ f.2.2.2.2.1 = true))
section AEH
variable {ex cx : Bool} {ρ : Nat → Int} {k : ae_K} {L : Nat} {xs : Nat → Int32} {M : List ae_M} {h h' : List am_E}
theorem ae_hk_of (hf : ae_fok = true) (hx : ex = true → cx = true) (hH : ae_hp ex k.1 ρ L xs M h) (hd : ∀ p j, ae_dy ρ M p j → cx = true ∧ ae_ine p j = true) : ae_hk cx L xs h := by
  refine ⟨hH.1, fun p j v hp hc => ?_, fun f hfm i hi => ?_⟩
  · rcases hH.2.2.1 p j v hp hc with g | g | g
    · exact Or.inl g
    · exact Or.inr (hd p j g)
    · exact Or.inr ⟨hx g.1, g.2⟩
  · rcases hH.2.2.2 f hfm i hi with g | ⟨o, ho, g⟩ | g
    · exact Or.inl g
    · have h1 := hd _ _ g
      rw [((ae_fok_at hf hfm).2.2.2 o ho i hi).2] at h1
      exact Or.inr h1
    · exact Or.inr ⟨hx g.1, g.2⟩
theorem ae_hp_of (n : Nat) (hH : ae_hk cx L xs h) : ae_hp cx n ρ L xs [] h := by
  refine ⟨hH.1, fun m hm => absurd hm List.not_mem_nil, fun p j v hp hc => ?_, fun f hf i hi => ?_⟩
  · rcases hH.2.1 p j v hp hc with g | g
    · exact Or.inl g
    · exact Or.inr (Or.inr g)
  · rcases hH.2.2 f hf i hi with g | g
    · exact Or.inl g
    · exact Or.inr (Or.inr g)
/-- surely outside of what is written -/
noncomputable def ae_ou (k : ae_K) (mo : ae_Mo) (m : ae_M) : Bool := ai_all (fun r => Bool.rec (motive := fun _ => Bool) true (ae_z k (ae_pls m.2.1 (1 - r.2.1)) || ae_z k (ae_neg m.2.1 (r.2.2 + 1))) (Nat.beq r.1 m.1)) mo
theorem ae_ou_ok (hK : ae_okK ρ k) {mo : ae_Mo} {m : ae_M} {j : Nat} (he : ae_ev ρ m.2.1 = (j : Int)) (q : ae_ou k mo m = true) : ae_inm mo m.1 j = false := by
  cases hb : ae_inm mo m.1 j with
  | false => rfl
  | true =>
    obtain ⟨r, hr, h1⟩ := List.any_eq_true.mp hb
    simp only [Bool.and_eq_true] at h1
    unfold ae_ou at q
    rw [ai_all_e] at q
    have h2 := List.all_eq_true.mp q r hr
    rw [h1.1.1] at h2
    have h2 : (ae_z k (ae_pls m.2.1 (1 - r.2.1)) || ae_z k (ae_neg m.2.1 (r.2.2 + 1))) = true := h2
    rw [Bool.or_eq_true] at h2
    have l1 := ae_le_iff.mp h1.1.2
    have l2 := ae_le_iff.mp h1.2
    rcases h2 with h2 | h2
    · have := ae_z_ok hK h2
      rw [ae_pls_ev, he] at this
      omega
    · have := ae_z_ok hK h2
      rw [ae_neg_ev, he] at this
      omega
/-- what is written leaves the excepted cells as they are -/
noncomputable def ae_mx2 (mo : ae_Mo) : Bool := mo.all fun r => !(Nat.beq r.1 ae_exp) || ae_le (r.2.2 + 1) (ae_exl : Int) || ae_le ((ae_exh : Int) + 1) r.2.1
theorem ae_mx2_ok {mo : ae_Mo} (q : ae_mx2 mo = true) {p j : Nat} (h : ae_ine p j = true) : ae_inm mo p j = false := by
  unfold ae_ine at h
  simp only [Bool.and_eq_true] at h
  have hp := Nat.eq_of_beq_eq_true h.1.1
  have l1 := Nat.le_of_ble_eq_true h.1.2
  have l2 := Nat.le_of_ble_eq_true h.2
  cases hb : ae_inm mo p j with
  | false => rfl
  | true =>
    obtain ⟨r, hr, h1⟩ := List.any_eq_true.mp hb
    simp only [Bool.and_eq_true] at h1
    have h2 := List.all_eq_true.mp q r hr
    simp only [Bool.or_eq_true, Bool.not_eq_true'] at h2
    have g1 := ae_le_iff.mp h1.1.2
    have g2 := ae_le_iff.mp h1.2
    rcases h2 with (h2 | h2) | h2
    · rw [← hp, h1.1.1] at h2; cases h2
    · have := ae_le_iff.mp h2; omega
    · have := ae_le_iff.mp h2; omega
noncomputable def ae_kept (k : ae_K) (mo : ae_Mo) (M : List ae_M) : Option (List ae_M) := bif ai_all (fun m => !m.2.2.2 || ae_ou k mo m) M then some (ai_flt (ae_ou k mo) M) else none
/-- behind a piece that keeps the invariant and writes so much alone -/
theorem ae_kept_ok (hf : ae_fok = true) {mo : ae_Mo} {M' : List ae_M} (hx : cx = true → ae_mx2 mo = true) (hK : ae_okK ρ k) (hH : ae_hp ex k.1 ρ L xs M h) (hk : ae_hk cx L xs h') (hfr : ae_fr mo L xs h h') (q : ae_kept k mo M = some M') : ae_hp ex k.1 ρ L xs M' h' := by
  unfold ae_kept at q
  rw [ai_all_e, ai_flt_e] at q
  cases hb : M.all (fun m => !m.2.2.2 || ae_ou k mo m) with
  | false => rw [hb] at q; cases q
  | true =>
    rw [hb] at q
    cases q
    have hdy : ∀ p j, ae_dy ρ M p j → ae_dy ρ (M.filter (ae_ou k mo)) p j := by
      intro p j ⟨m, m1, m2, m3, m4⟩
      have h1 := List.all_eq_true.mp hb m m1
      rw [m2] at h1
      exact ⟨m, List.mem_filter.mpr ⟨m1, h1⟩, m2, m3, m4⟩
    refine ⟨hk.1, fun m hm => ?_, fun p j v hp hc => ?_, fun f hfm i hi => ?_⟩
    · obtain ⟨m1, m2⟩ := List.mem_filter.mp hm
      obtain ⟨j, v, g1, g2, g3⟩ := hH.2.1 m m1
      exact ⟨j, v, g1, by rw [hfr m.1 j (ae_ou_ok hK g1.2 m2)]; exact g2, g3⟩
    · rcases hk.2.1 p j v hp hc with g | ⟨g1, g2⟩
      · exact Or.inl g
      · rw [hfr p j (ae_mx2_ok (hx g1) g2)] at hc
        rcases hH.2.2.1 p j v hp hc with g | g | g
        · exact Or.inl g
        · exact Or.inr (Or.inl (hdy p j g))
        · exact Or.inr (Or.inr g)
    · rcases hk.2.2 f hfm i hi with g | ⟨g1, g2⟩
      · exact Or.inl g
      · rcases hH.2.2.2 f hfm i hi with g | ⟨o, ho, g⟩ | g
        · refine Or.inl (ae_cl_eq (fun o ho => ?_) g)
          refine hfr _ _ (ae_mx2_ok (hx g1) ?_)
          rw [((ae_fok_at hf hfm).2.2.2 o ho i hi).2]
          exact g2
        · exact Or.inr (Or.inl ⟨o, ho, hdy _ _ g⟩)
        · exact Or.inr (Or.inr g)
end AEH

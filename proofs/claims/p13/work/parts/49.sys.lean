/-! The calls that aren't walked -/
noncomputable def ae_fnew (k : ae_K) (lo hi : Int) (fs : List ae_X) : ae_K := (k.1 + 1, (k.1, lo, hi) :: k.2.1, fs ++ k.2.2.1, k.2.2.2)
theorem ae_fnew_ok {ρ : Nat → Int} {k : ae_K} (h : ae_okK ρ k) {lo hi x : Int} (h1 : lo ≤ x) (h2 : x ≤ hi) {fs : List ae_X} (hf : ∀ f ∈ fs, ae_wt (k.1 + 1) f.2 ∧ ae_ev (ae_up ρ k.1 x) f ≤ 0) : ae_okK (ae_up ρ k.1 x) (ae_fnew k lo hi fs) := by
  have h3 := ae_new_ok h h1 h2
  refine ⟨h3.1, fun f hff => ?_, h3.2.2⟩
  rcases List.mem_append.mp hff with q | q
  · exact hf f q
  · exact h3.2.1 f q
/-- the least (m = 1) or the greatest (m = -1) of two ints -/
noncomputable def ae_mx (m : Int) (k : ae_K) (X Y : ae_X) : Option (ae_K × ae_X) :=
  bif ae_z k (ae_scl m (ae_sub X Y)) then some (k, X) else bif ae_z k (ae_scl m (ae_sub Y X)) then some (k, Y) else
    (ae_lo k X).bind fun lx => (ae_lo k Y).bind fun ly => (ae_hi k X).bind fun hx => (ae_hi k Y).bind fun hy =>
      some (ae_fnew k (bif ae_ie m 1 then (bif ae_le lx ly then lx else ly) else (bif ae_le lx ly then ly else lx)) (bif ae_ie m 1 then (bif ae_le hx hy then hx else hy) else (bif ae_le hx hy then hy else hx)) [ae_scl m (ae_sub (ae_sym k.1) X), ae_scl m (ae_sub (ae_sym k.1) Y)], ae_sym k.1)
theorem ae_mx_ok {ρ : Nat → Int} {k : ae_K} (hK : ae_okK ρ k) {X Y : ae_X} {x y z m : Int} (hX : ae_dn k.1 ρ X x) (hY : ae_dn k.1 ρ Y y) (hm : (m = 1 ∧ z = min x y) ∨ (m = -1 ∧ z = max x y)) {q : ae_K × ae_X} (h : ae_mx m k X Y = some q) : ∃ ρ', ae_up2 ρ k ρ' q.1 ∧ ae_dn q.1.1 ρ' q.2 z := by
  unfold ae_mx at h
  cases h1 : ae_z k (ae_scl m (ae_sub X Y)) with
  | true =>
    rw [h1] at h
    cases h
    have h2 := ae_z_ok hK h1
    rw [ae_scl_ev, ae_sub_ev, hX.2, hY.2] at h2
    have : z = x := by
      rcases hm with ⟨rfl, rfl⟩ | ⟨rfl, rfl⟩ <;> omega
    rw [this]
    exact ⟨ρ, ⟨Nat.le_refl _, ae_ag_rf _ _, hK⟩, hX⟩
  | false =>
    rw [h1] at h
    cases h3 : ae_z k (ae_scl m (ae_sub Y X)) with
    | true =>
      rw [h3] at h
      cases h
      have h2 := ae_z_ok hK h3
      rw [ae_scl_ev, ae_sub_ev, hX.2, hY.2] at h2
      have : z = y := by
        rcases hm with ⟨rfl, rfl⟩ | ⟨rfl, rfl⟩ <;> omega
      rw [this]
      exact ⟨ρ, ⟨Nat.le_refl _, ae_ag_rf _ _, hK⟩, hY⟩
    | false =>
      rw [h3] at h
      obtain ⟨lx, a1, h⟩ := Option.bind_eq_some_iff.mp h
      obtain ⟨ly, a2, h⟩ := Option.bind_eq_some_iff.mp h
      obtain ⟨hx, a3, h⟩ := Option.bind_eq_some_iff.mp h
      obtain ⟨hy, a4, h⟩ := Option.bind_eq_some_iff.mp h
      cases h
      have b1 := ae_lo_ok hK a1
      have b2 := ae_lo_ok hK a2
      have b3 := ae_hi_ok hK a3
      have b4 := ae_hi_ok hK a4
      rw [hX.2] at b1 b3
      rw [hY.2] at b2 b4
      have c1 : (bif ae_ie m 1 then (bif ae_le lx ly then lx else ly) else (bif ae_le lx ly then ly else lx)) ≤ z := by
        rcases hm with ⟨rfl, rfl⟩ | ⟨rfl, rfl⟩
        · cases h5 : ae_le lx ly with
          | true => have := ae_le_iff.mp h5; show lx ≤ min x y; omega
          | false =>
            have : ¬ lx ≤ ly := fun q => by rw [ae_le_iff.mpr q] at h5; cases h5
            show ly ≤ min x y; omega
        · cases h5 : ae_le lx ly with
          | true => have := ae_le_iff.mp h5; show ly ≤ max x y; omega
          | false =>
            have : ¬ lx ≤ ly := fun q => by rw [ae_le_iff.mpr q] at h5; cases h5
            show lx ≤ max x y; omega
      have c2 : z ≤ (bif ae_ie m 1 then (bif ae_le hx hy then hx else hy) else (bif ae_le hx hy then hy else hx)) := by
        rcases hm with ⟨rfl, rfl⟩ | ⟨rfl, rfl⟩
        · cases h5 : ae_le hx hy with
          | true => have := ae_le_iff.mp h5; show min x y ≤ hx; omega
          | false =>
            have : ¬ hx ≤ hy := fun q => by rw [ae_le_iff.mpr q] at h5; cases h5
            show min x y ≤ hy; omega
        · cases h5 : ae_le hx hy with
          | true => have := ae_le_iff.mp h5; show max x y ≤ hy; omega
          | false =>
            have : ¬ hx ≤ hy := fun q => by rw [ae_le_iff.mpr q] at h5; cases h5
            show max x y ≤ hx; omega
      have hs : ae_dn (k.1 + 1) (ae_up ρ k.1 z) (ae_sym k.1) z := by
        have := ae_sym_dn (n := k.1 + 1) (ρ := ae_up ρ k.1 z) (s := k.1) (Nat.lt_succ_self _)
        rwa [ae_up_at] at this
      have hX' := ae_dn_ext (Nat.le_succ k.1) (ae_up_ag ρ k.1 z) hX
      have hY' := ae_dn_ext (Nat.le_succ k.1) (ae_up_ag ρ k.1 z) hY
      refine ⟨ae_up ρ k.1 z, ⟨Nat.le_succ _, ae_up_ag _ _ _, ae_fnew_ok hK c1 c2 (fun f hf => ?_)⟩, hs⟩
      rcases List.mem_cons.mp hf with rfl | hf
      · have g := ae_scl_dn (ae_sub_dn hs hX') m
        refine ⟨g.1, ?_⟩
        rw [g.2]
        rcases hm with ⟨rfl, rfl⟩ | ⟨rfl, rfl⟩ <;> omega
      · rw [List.mem_singleton.mp hf]
        have g := ae_scl_dn (ae_sub_dn hs hY') m
        refine ⟨g.1, ?_⟩
        rw [g.2]
        rcases hm with ⟨rfl, rfl⟩ | ⟨rfl, rfl⟩ <;> omega
noncomputable def ae_sm (m : Int) (pc : Nat) (k : ae_K) (M : List ae_M) (lv : ae_L) (st : List ae_V) : Option (List ae_R) := match st with
  | y :: x :: r => bif Nat.beq y.1 0 && Nat.beq x.1 0 then (ae_mx m k (ae_nr k x.2.2) (ae_nr k y.2.2)).bind fun q => some [(pc, q.1, M, lv, (0, 0, q.2) :: r)] else none
  | _ => none
/-- a row's cells can be another row's -/
noncomputable def ae_cok (s t : Nat) : Bool := match ae_ua s with
  | some i => (match ae_ua t with
    | some j => Nat.beq i.1 j.1 && Nat.blt i.1 2 && ae_le j.2.1 i.2.1 && ae_le i.2.2 j.2.2
    | none => false)
  | none => false
noncomputable def ae_cpk (ex : Bool) (mo : ae_Mo) (k : ae_K) (M : List ae_M) (n dp sp : ae_X) (s t : Nat) : Bool :=
  ae_z k (ae_neg n 0) && ae_z k (ae_neg dp 0) && ae_z k (ae_neg sp 0) && ae_z k (ae_pls (ae_add sp n) (-((ae_sh s).2.2 : Int))) && ae_z k (ae_pls (ae_add dp n) (-((ae_sh t).2.2 : Int))) && ae_cok s t &&
  M.all (fun m => !m.2.2.2 || (!(Nat.beq m.1 s) && !(Nat.beq m.1 t))) && (!ex || (!(Nat.beq s ae_exp) && !(Nat.beq t ae_exp))) && ae_fam.all (fun f => !(Nat.beq f.1 t)) && mo.any (fun r => Nat.beq r.1 t && ae_le r.2.1 0 && ae_le ((ae_sh t).2.2 : Int) (r.2.2 + 1))
noncomputable def ae_cpy (ex : Bool) (mo : ae_Mo) (pc : Nat) (k : ae_K) (M : List ae_M) (lv : ae_L) (st : List ae_V) : Option (List ae_R) := match st with
  | n :: dp :: t :: sp :: s :: r => bif Nat.beq n.1 0 && Nat.beq dp.1 0 && Nat.beq t.1 2 && Nat.beq sp.1 0 && Nat.beq s.1 2 && ((ae_isA s.2.1 0 && ae_isA t.2.1 0) || (ae_isA s.2.1 2 && ae_isA t.2.1 2)) && ae_cpk ex mo k M n.2.2 dp.2.2 sp.2.2 s.2.1 t.2.1 then some [(pc, k, M.filter (fun m => !(Nat.beq m.1 t.2.1)), lv, r)] else none
  | _ => none
noncomputable def ae_sy (ex : Bool) (mo : ae_Mo) (a pc : Nat) (k : ae_K) (M : List ae_M) (lv : ae_L) (st : List ae_V) : Option (List ae_R) := match a with
  | 1000 => (match st with
    | p :: r => bif Nat.beq p.1 2 then some [(pc + 3, k, M, lv, r)] else none
    | [] => none)
  | 1001 => ae_sm 1 (pc + 3) k M lv st
  | 1002 => ae_sm (-1) (pc + 3) k M lv st
  | 1004 => ae_cpy ex mo (pc + 3) k M lv st
  | _ => none
section AEY
variable {ex : Bool} {mo : ae_Mo} {ρ : Nat → Int} {L : Nat} {xs : Nat → Int32} {k : ae_K} {M : List ae_M} {lv : ae_L} {st : List ae_V} {lw : am_L} {sw : List Value} {h : List am_E} {pc : Nat} {o : List ae_R}
theorem ae_sm_ok (gH : ae_mm ex ρ L xs k M lv st lw sw h) {m : Int} (q : ae_sm m pc k M lv st = some o) : ∃ x y r, sw = .int y :: .int x :: r ∧ ∀ z : Int32, (m = 1 ∧ z.toInt = min x.toInt y.toInt) ∨ (m = -1 ∧ z.toInt = max x.toInt y.toInt) → ae_G ex mo ρ L xs k o (some (pc, lw, .int z :: r, none)) h := by
  unfold ae_sm at q
  split at q
  · rename_i Y X R
    obtain ⟨hb, q⟩ := ae_bif q
    rw [Bool.and_eq_true] at hb
    obtain ⟨q1, h1, q⟩ := Option.bind_eq_some_iff.mp q
    cases q
    obtain ⟨v, t0, rfl, g1, g2⟩ := ae_sr1 gH.2.2.2.2
    obtain ⟨w, t, rfl, g3, g4⟩ := ae_sr1 g2
    obtain ⟨y, rfl, d1⟩ := ae_ok0 g1 hb.1
    obtain ⟨x, rfl, d2⟩ := ae_ok0 g3 hb.2
    refine ⟨x, y, t, rfl, fun z hz => ?_⟩
    obtain ⟨ρ1, u1, w1⟩ := ae_mx_ok gH.1 (ae_nr_dn gH.1 d2) (ae_nr_dn gH.1 d1) hz h1
    exact ae_G_push (st := R) ⟨gH.1, gH.2.1, gH.2.2.1, gH.2.2.2.1, g4⟩ ⟨ρ1, u1, z, rfl, w1⟩
  · cases q
theorem ae_io_in {i j : ae_I} {v : Value} (h : ae_io i v) (h1 : i.1 = j.1) (h2 : i.1 < 2) (h3 : j.2.1 ≤ i.2.1) (h4 : i.2.2 ≤ j.2.2) : ae_io j v := by
  obtain ⟨i1, i2, i3⟩ := i
  obtain ⟨j1, j2, j3⟩ := j
  have h1 : i1 = j1 := h1
  subst h1
  unfold ae_io at *
  match i1, h, h2 with
  | 0, h, _ => obtain ⟨x, a, b, c⟩ := h; exact ⟨x, a, Int.le_trans h3 b, Int.le_trans c h4⟩
  | 1, h, _ => obtain ⟨x, a, b, c⟩ := h; exact ⟨x, a, Int.le_trans h3 b, Int.le_trans c h4⟩
  | n + 2, _, h2 => exact absurd h2 (by show ¬ (n + 2 < 2); omega)
/-- a row that became a mix of itself and of another one -/
theorem ae_cpy_hp {s t : Nat} {i : Nat} {e0 e : am_E} (gH : ae_mm ex ρ L xs k M lv st lw sw h) (hc : ae_cok s t = true) (hs0 : 0 < s) (hx : ex = true → ae_ine s = fun _ => false) (hx2 : ex = true → ∀ j, ae_ine t j = false) (hd : ∀ m ∈ M, m.2.2.2 = true → m.1 ≠ s ∧ m.1 ≠ t) (hfm : ∀ f ∈ ae_fam, f.1 ≠ t) (ht : t = i + 1) (hi : i < ae_np) (h0 : h[i]? = some e0) (hf : ∀ z, ae_f1 z e0 → ae_f1 z e)
    (hmo : ∀ j v, ae_ec e0 j = some v → ae_inm mo t j = true) (hlen : ∀ j, ae_ec e0 j = none → ae_ec e j = none)
    (hcl : ∀ j v, ae_ec e j = some v → (ae_cell L xs h t j = some v) ∨ (∃ j', ae_cell L xs h s j' = some v)) :
    ae_hp ex k.1 ρ L xs (M.filter (fun m => !(Nat.beq m.1 t))) (h.set i e) ∧ ae_fr mo L xs h (h.set i e) := by
  have hl := (List.getElem?_eq_some_iff.mp h0).1
  have hother : ∀ q j, q ≠ t → ae_cell L xs (h.set i e) q j = ae_cell L xs h q j := by
    intro q j hq
    cases q with
    | zero => rfl
    | succ q =>
      show ((h.set i e)[q]?.bind fun e => ae_ec e j) = (h[q]?.bind fun e => ae_ec e j)
      rw [List.getElem?_set_ne (fun hqi => hq (by rw [ht, hqi]))]
  have hthis : ∀ j, ae_cell L xs (h.set i e) t j = ae_ec e j := by
    intro j
    rw [ht]
    show ((h.set i e)[i]?.bind fun e => ae_ec e j) = _
    rw [List.getElem?_set_self hl]; rfl
  have hthis0 : ∀ j, ae_cell L xs h t j = ae_ec e0 j := by
    intro j
    rw [ht]
    show (h[i]?.bind fun e => ae_ec e j) = _
    rw [h0]; rfl
  have hfr : ae_fr mo L xs h (h.set i e) := by
    intro q j hq
    by_cases hqt : q = t
    · subst hqt
      rw [hthis, hthis0]
      cases hj : ae_ec e0 j with
      | none => exact hlen j hj
      | some v => rw [hmo j v hj] at hq; cases hq
    · exact hother q j hqt
  unfold ae_cok at hc
  split at hc
  · rename_i si hsi
    split at hc
    · rename_i ti hti
      simp only [Bool.and_eq_true] at hc
      obtain ⟨⟨⟨c1, c2⟩, c3⟩, c4⟩ := hc
      have ivs : ∀ j, ae_iv s j = si := fun j => by unfold ae_iv; rw [hsi]
      have ivt : ∀ j, ae_iv t j = ti := fun j => by unfold ae_iv; rw [hti]
      have hnd : ∀ q j, (q = s ∨ q = t) → ¬ ae_dy ρ M q j := by
        intro q j hq ⟨m, m1, m2, m3, m4⟩
        have := hd m m1 m2
        rcases hq with rfl | rfl
        · exact this.1 m3
        · exact this.2 m3
      refine ⟨⟨⟨by rw [List.length_set]; exact gH.2.2.1.1.1, fun q hq => ?_⟩, fun m hm => ?_, fun q j v hq hcq => ?_, fun f hff ii hii => ?_⟩, hfr⟩
      · obtain ⟨e1, g1, g2⟩ := gH.2.2.1.1.2 q hq
        by_cases hqi : i = q
        · subst hqi
          rw [h0] at g1
          cases g1
          exact ⟨e, List.getElem?_set_self hl, hf _ g2⟩
        · exact ⟨e1, by rw [List.getElem?_set_ne hqi]; exact g1, g2⟩
      · obtain ⟨m1, m2⟩ := List.mem_filter.mp hm
        obtain ⟨j, v, g1, g2, g3⟩ := gH.2.2.1.2.1 m m1
        have hne : m.1 ≠ t := fun q => by rw [q, Nat.beq_refl] at m2; cases m2
        exact ⟨j, v, g1, by rw [hother m.1 j hne]; exact g2, g3⟩
      · by_cases hqt : q = t
        · rw [hqt] at hcq ⊢
          rw [hthis] at hcq
          refine Or.inl ?_
          rcases hcl j v hcq with g | ⟨j', g⟩
          · rcases gH.2.2.1.2.2.1 t j v (by rw [ht]; exact Nat.succ_pos i) g with z | z | z
            · exact z
            · exact absurd z (hnd t j (Or.inr rfl))
            · rw [hx2 z.1] at z; exact absurd z.2 (by decide)
          · rcases gH.2.2.1.2.2.1 s j' v hs0 g with z | z | z
            · rw [ivs] at z
              rw [ivt]
              exact ae_io_in z (Nat.eq_of_beq_eq_true c1) (Nat.blt_eq.mp c2) (ae_le_iff.mp c3) (ae_le_iff.mp c4)
            · exact absurd z (hnd s j' (Or.inl rfl))
            · rw [hx z.1] at z
              have z2 : false = true := z.2
              cases z2
        · rw [hother q j hqt] at hcq
          rcases gH.2.2.1.2.2.1 q j v hq hcq with z | ⟨m, m1, m2, m3, m4⟩ | z
          · exact Or.inl z
          · refine Or.inr (Or.inl ⟨m, List.mem_filter.mpr ⟨m1, ?_⟩, m2, m3, m4⟩)
            cases hb : Nat.beq m.1 t with
            | true => exact absurd (Nat.eq_of_beq_eq_true hb) (hd m m1 m2).2
            | false => rfl
          · exact Or.inr (Or.inr z)
      · rcases gH.2.2.1.2.2.2 f hff ii hii with z | ⟨o', ho', m, m1, m2, m3, m4⟩ | z
        · exact Or.inl (ae_cl_eq (fun o' _ => hother _ _ (hfm f hff)) z)
        · refine Or.inr (Or.inl ⟨o', ho', m, List.mem_filter.mpr ⟨m1, ?_⟩, m2, m3, m4⟩)
          cases hb : Nat.beq m.1 t with
          | true => exact absurd (Nat.eq_of_beq_eq_true hb) (hd m m1 m2).2
          | false => rfl
        · exact Or.inr (Or.inr z)
    · cases hc
  · cases hc
theorem ae_ine_ne {p : Nat} (h : Nat.beq p ae_exp = false) (j : Nat) : ae_ine p j = false := by
  unfold ae_ine
  rw [h]; rfl
theorem ae_nonneg {x : Int32} (h : 0 ≤ x.toInt) : ¬ x < 0 := by
  rw [Int32.lt_iff_toInt_lt]
  have z : (0 : Int32).toInt = 0 := rfl
  omega
set_option maxHeartbeats 1000000 in
theorem ae_cpy_ok (gH : ae_mm ex ρ L xs k M lv st lw sw h) (q : ae_cpy ex mo (pc + 3) k M lv st = some o) : ae_G ex mo ρ L xs k o (am_sys 1004 pc lw sw h) h := by
  unfold ae_cpy at q
  split at q
  · rename_i N DP T SP S R
    obtain ⟨hb, q⟩ := ae_bif q
    cases q
    simp only [Bool.and_eq_true] at hb
    obtain ⟨⟨⟨⟨⟨⟨b1, b2⟩, b3⟩, b4⟩, b5⟩, b6⟩, b7⟩ := hb
    unfold ae_cpk at b7
    simp only [Bool.and_eq_true] at b7
    obtain ⟨⟨⟨⟨⟨⟨⟨⟨⟨c1, c2⟩, c3⟩, c4⟩, c5⟩, c6⟩, c7⟩, c8⟩, c9⟩, c10⟩ := b7
    obtain ⟨v1, t1, rfl, g1, z1⟩ := ae_sr1 gH.2.2.2.2
    obtain ⟨v2, t2, rfl, g2, z2⟩ := ae_sr1 z1
    obtain ⟨v3, t3, rfl, g3, z3⟩ := ae_sr1 z2
    obtain ⟨v4, t4, rfl, g4, z4⟩ := ae_sr1 z3
    obtain ⟨v5, t5, rfl, g5, z5⟩ := ae_sr1 z4
    obtain ⟨n, rfl, d1⟩ := ae_ok0 g1 b1
    obtain ⟨dp, rfl, d2⟩ := ae_ok0 g2 b2
    obtain rfl := ae_ok2 g3 b3
    obtain ⟨sp, rfl, d4⟩ := ae_ok0 g4 b4
    obtain rfl := ae_ok2 g5 b5
    have e1 := ae_z_ok gH.1 c1
    have e2 := ae_z_ok gH.1 c2
    have e3 := ae_z_ok gH.1 c3
    have e4 := ae_z_ok gH.1 c4
    have e5 := ae_z_ok gH.1 c5
    rw [ae_neg_ev, d1.2] at e1
    rw [ae_neg_ev, d2.2] at e2
    rw [ae_neg_ev, d4.2] at e3
    rw [ae_pls_ev, ae_add_ev, d4.2, d1.2] at e4
    rw [ae_pls_ev, ae_add_ev, d2.2, d1.2] at e5
    have f1 := ae_clamp (x := n) (by omega)
    have f2 := ae_clamp (x := dp) (by omega)
    have f3 := ae_clamp (x := sp) (by omega)
    have k1 : Nat.ble (sp.toNatClampNeg + n.toNatClampNeg) (ae_sh S.2.1).2.2 = true := Nat.ble_eq_true_of_le (by omega)
    have k2 : Nat.ble (dp.toNatClampNeg + n.toNatClampNeg) (ae_sh T.2.1).2.2 = true := Nat.ble_eq_true_of_le (by omega)
    have kc : (!(decide (sp < 0)) && !(decide (dp < 0)) && !(decide (n < 0)) && Nat.ble (sp.toNatClampNeg + n.toNatClampNeg) (ae_sh S.2.1).2.2 && Nat.ble (dp.toNatClampNeg + n.toNatClampNeg) (ae_sh T.2.1).2.2) = true := by
      rw [decide_eq_false (ae_nonneg (x := sp) (by omega)), decide_eq_false (ae_nonneg (x := dp) (by omega)), decide_eq_false (ae_nonneg (x := n) (by omega)), k1, k2]; rfl
    have hdm : ∀ m ∈ M, m.2.2.2 = true → m.1 ≠ S.2.1 ∧ m.1 ≠ T.2.1 := by
      intro m hm hmd
      have h1 := List.all_eq_true.mp c7 m hm
      rw [hmd] at h1
      simp only [Bool.not_true, Bool.false_or, Bool.and_eq_true, Bool.not_eq_true'] at h1
      exact ⟨fun q => by rw [q, Nat.beq_refl] at h1; exact absurd h1.1 (by decide), fun q => by rw [q, Nat.beq_refl] at h1; exact absurd h1.2 (by decide)⟩
    have hfm : ∀ f ∈ ae_fam, f.1 ≠ T.2.1 := by
      intro f hf q
      have h1 := List.all_eq_true.mp c9 f hf
      rw [q, Nat.beq_refl] at h1
      cases h1
    have hx : ex = true → (ae_ine S.2.1 = fun _ => false) ∧ ∀ j, ae_ine T.2.1 j = false := by
      intro hex
      rw [hex] at c8
      simp only [Bool.not_true, Bool.false_or, Bool.and_eq_true, Bool.not_eq_true'] at c8
      exact ⟨funext fun j => ae_ine_ne c8.1 j, ae_ine_ne c8.2⟩
    have hmo : ∀ j, j < (ae_sh T.2.1).2.2 → ae_inm mo T.2.1 j = true := by
      intro j hj
      obtain ⟨r, hr, h1⟩ := List.any_eq_true.mp c10
      simp only [Bool.and_eq_true] at h1
      have l1 := ae_le_iff.mp h1.1.2
      have l2 := ae_le_iff.mp h1.2
      refine List.any_eq_true.mpr ⟨r, hr, ?_⟩
      rw [h1.1.1, ae_le_iff.mpr (show r.2.1 ≤ (j : Int) by omega), ae_le_iff.mpr (show (j : Int) ≤ r.2.2 by omega)]; rfl
    rw [Bool.or_eq_true, Bool.and_eq_true, Bool.and_eq_true] at b6
    rcases b6 with ⟨b6, b8⟩ | ⟨b6, b8⟩
    · obtain ⟨i, c, p1, p2, p3, p4, -, -⟩ := ae_arr gH.2.2.1.1 b6
      obtain ⟨f, rfl⟩ := p4 (by decide)
      obtain ⟨j, c', q1, q2, q3, q4, -, -⟩ := ae_arr gH.2.2.1.1 b8
      obtain ⟨g, rfl⟩ := q4 (by decide)
      have m1 : am_ai h S.2.1 0 = some ((ae_sh S.2.1).2.2, f) := by
        rw [p1] at p3 ⊢
        show (match h[i]? with
          | some (.inl (c, n, .inl f)) => am_if (Nat.beq c 0) (some (n, f))
          | _ => none) = _
        rw [p3]; rfl
      have m2 : am_ai h T.2.1 0 = some ((ae_sh T.2.1).2.2, g) := by
        rw [q1] at q3 ⊢
        show (match h[j]? with
          | some (.inl (c, n, .inl f)) => am_if (Nat.beq c 0) (some (n, f))
          | _ => none) = _
        rw [q3]; rfl
      have m3 : am_sys 1004 pc lw (.int n :: .int dp :: .ref T.2.1 :: .int sp :: .ref S.2.1 :: t5) h = some (pc + 3, lw, t5, some (some (T.2.1 - 1), .inl (0, (ae_sh T.2.1).2.2, .inl (va_cpy f g sp.toNatClampNeg dp.toNatClampNeg n.toNatClampNeg)))) := by
        show (match am_ai h S.2.1 0 with
          | some f => (am_ai h T.2.1 0).bind fun g => am_if (!(decide (sp < 0)) && !(decide (dp < 0)) && !(decide (n < 0)) && Nat.ble (sp.toNatClampNeg + n.toNatClampNeg) f.1 && Nat.ble (dp.toNatClampNeg + n.toNatClampNeg) g.1) (some (pc + 3, lw, t5, some (some (T.2.1 - 1), .inl (0, g.1, .inl (va_cpy f.2 g.2 sp.toNatClampNeg dp.toNatClampNeg n.toNatClampNeg)))) : Option am_R4)
          | none => (am_al h S.2.1).bind fun f => (am_al h T.2.1).bind fun g => am_if (!(decide (sp < 0)) && !(decide (dp < 0)) && !(decide (n < 0)) && Nat.ble (sp.toNatClampNeg + n.toNatClampNeg) f.1 && Nat.ble (dp.toNatClampNeg + n.toNatClampNeg) g.1) (some (pc + 3, lw, t5, some (some (T.2.1 - 1), .inl (2, g.1, .inr (.inl (va_cpy f.2 g.2 sp.toNatClampNeg dp.toNatClampNeg n.toNatClampNeg))))))) = _
        rw [m1]
        show ((am_ai h T.2.1 0).bind _) = _
        rw [m2]
        show am_if _ _ = _
        rw [kc]; rfl
      rw [m3]
      have e7 : T.2.1 - 1 = j := by rw [q1]; rfl
      rw [e7]
      obtain ⟨H2, F2⟩ := ae_cpy_hp (mo := mo) (e := .inl (0, (ae_sh T.2.1).2.2, .inl (va_cpy f g sp.toNatClampNeg dp.toNatClampNeg n.toNatClampNeg))) gH c6 (by rw [p1]; exact Nat.succ_pos i) (fun z => (hx z).1) (fun z => (hx z).2) hdm hfm q1 q2 q3 (fun z hz => ⟨hz.1, hz.2.1, hz.2.2.1, fun _ => ⟨_, rfl⟩, fun q => (by cases q), fun q => absurd (show 3 ≤ 0 from q) (by decide)⟩)
        (fun j' v hv => by
          have hv : (bif Nat.blt j' (ae_sh T.2.1).2.2 then some (Value.int (g j')) else none) = some v := hv
          exact hmo j' (Nat.blt_eq.mp (ae_bif hv).1))
        (fun j' hv => by
          have hv : (bif Nat.blt j' (ae_sh T.2.1).2.2 then some (Value.int (g j')) else none) = none := hv
          show (bif Nat.blt j' (ae_sh T.2.1).2.2 then some _ else none) = none
          cases hbb : Nat.blt j' (ae_sh T.2.1).2.2 with
          | true => rw [hbb] at hv; cases hv
          | false => rfl)
        (fun j' v hv => by
          have hv : (bif Nat.blt j' (ae_sh T.2.1).2.2 then some (Value.int (va_cpy f g sp.toNatClampNeg dp.toNatClampNeg n.toNatClampNeg j')) else none) = some v := hv
          obtain ⟨hl, hv⟩ := ae_bif hv
          cases hv
          by_cases hin : dp.toNatClampNeg ≤ j' ∧ j' < dp.toNatClampNeg + n.toNatClampNeg
          · refine Or.inr ⟨sp.toNatClampNeg + (j' - dp.toNatClampNeg), ?_⟩
            rw [p1] at p3 ⊢
            show (h[i]?.bind fun e => ae_ec e _) = _
            rw [p3]
            show (bif Nat.blt (sp.toNatClampNeg + (j' - dp.toNatClampNeg)) (ae_sh (i + 1)).2.2 then some (Value.int (f (sp.toNatClampNeg + (j' - dp.toNatClampNeg)))) else none) = _
            rw [← p1, Nat.blt_eq.mpr (by omega)]
            show some (Value.int _) = some (Value.int (va_cpy f g _ _ _ j'))
            rw [show va_cpy f g sp.toNatClampNeg dp.toNatClampNeg n.toNatClampNeg j' = f (sp.toNatClampNeg + (j' - dp.toNatClampNeg)) from if_pos hin]
          · refine Or.inl ?_
            rw [q1] at q3 hl ⊢
            show (h[j]?.bind fun e => ae_ec e j') = _
            rw [q3]
            show (bif Nat.blt j' (ae_sh (j + 1)).2.2 then some (Value.int (g j')) else none) = _
            rw [hl]
            show some (Value.int _) = some (Value.int (va_cpy f g _ _ _ j'))
            rw [show va_cpy f g sp.toNatClampNeg dp.toNatClampNeg n.toNatClampNeg j' = g j' from if_neg hin])
      refine ⟨_, _, rfl, ?_, F2, _, List.mem_singleton.mpr rfl, rfl, ρ, ⟨Nat.le_refl _, ae_ag_rf _ _, gH.1⟩, gH.1, gH.2.1, H2, gH.2.2.2.1, z5⟩
      show (h[j]?.bind fun e0 => bif Nat.beq (am_sz e0) (ae_sh T.2.1).2.2 then some (h.set j _) else none) = _
      rw [q3]
      show (bif Nat.beq (ae_sh T.2.1).2.2 (ae_sh T.2.1).2.2 then some (h.set j _) else none) = _
      rw [Nat.beq_refl]; rfl
    · obtain ⟨i, c, p1, p2, p3, -, p4, -⟩ := ae_arr gH.2.2.1.1 b6
      obtain ⟨f, rfl⟩ := p4 rfl
      obtain ⟨j, c', q1, q2, q3, -, q4, -⟩ := ae_arr gH.2.2.1.1 b8
      obtain ⟨g, rfl⟩ := q4 rfl
      have m0 : am_ai h S.2.1 0 = none := by
        rw [p1] at p3 ⊢
        show (match h[i]? with
          | some (.inl (c, n, .inl f)) => am_if (Nat.beq c 0) (some (n, f))
          | _ => none) = _
        rw [p3]
      have m1 : am_al h S.2.1 = some ((ae_sh S.2.1).2.2, f) := by
        rw [p1] at p3 ⊢
        show (match h[i]? with
          | some (.inl (c, n, .inr (.inl f))) => am_if (Nat.beq c 2) (some (n, f))
          | _ => none) = _
        rw [p3]; rfl
      have m2 : am_al h T.2.1 = some ((ae_sh T.2.1).2.2, g) := by
        rw [q1] at q3 ⊢
        show (match h[j]? with
          | some (.inl (c, n, .inr (.inl f))) => am_if (Nat.beq c 2) (some (n, f))
          | _ => none) = _
        rw [q3]; rfl
      have m3 : am_sys 1004 pc lw (.int n :: .int dp :: .ref T.2.1 :: .int sp :: .ref S.2.1 :: t5) h = some (pc + 3, lw, t5, some (some (T.2.1 - 1), .inl (2, (ae_sh T.2.1).2.2, .inr (.inl (va_cpy f g sp.toNatClampNeg dp.toNatClampNeg n.toNatClampNeg))))) := by
        show (match am_ai h S.2.1 0 with
          | some f => (am_ai h T.2.1 0).bind fun g => am_if (!(decide (sp < 0)) && !(decide (dp < 0)) && !(decide (n < 0)) && Nat.ble (sp.toNatClampNeg + n.toNatClampNeg) f.1 && Nat.ble (dp.toNatClampNeg + n.toNatClampNeg) g.1) (some (pc + 3, lw, t5, some (some (T.2.1 - 1), .inl (0, g.1, .inl (va_cpy f.2 g.2 sp.toNatClampNeg dp.toNatClampNeg n.toNatClampNeg)))) : Option am_R4)
          | none => (am_al h S.2.1).bind fun f => (am_al h T.2.1).bind fun g => am_if (!(decide (sp < 0)) && !(decide (dp < 0)) && !(decide (n < 0)) && Nat.ble (sp.toNatClampNeg + n.toNatClampNeg) f.1 && Nat.ble (dp.toNatClampNeg + n.toNatClampNeg) g.1) (some (pc + 3, lw, t5, some (some (T.2.1 - 1), .inl (2, g.1, .inr (.inl (va_cpy f.2 g.2 sp.toNatClampNeg dp.toNatClampNeg n.toNatClampNeg))))))) = _
        rw [m0]
        show ((am_al h S.2.1).bind _) = _
        rw [m1]
        show ((am_al h T.2.1).bind _) = _
        rw [m2]
        show am_if _ _ = _
        rw [kc]; rfl
      rw [m3]
      have e7 : T.2.1 - 1 = j := by rw [q1]; rfl
      rw [e7]
      obtain ⟨H2, F2⟩ := ae_cpy_hp (mo := mo) (e := .inl (2, (ae_sh T.2.1).2.2, .inr (.inl (va_cpy f g sp.toNatClampNeg dp.toNatClampNeg n.toNatClampNeg)))) gH c6 (by rw [p1]; exact Nat.succ_pos i) (fun z => (hx z).1) (fun z => (hx z).2) hdm hfm q1 q2 q3 (fun z hz => ⟨hz.1, hz.2.1, hz.2.2.1, fun q => absurd (show 2 < 2 from q) (by decide), fun _ => ⟨_, rfl⟩, fun q => absurd (show 3 ≤ 2 from q) (by decide)⟩)
        (fun j' v hv => by
          have hv : (bif Nat.blt j' (ae_sh T.2.1).2.2 then some (Value.long (g j')) else none) = some v := hv
          exact hmo j' (Nat.blt_eq.mp (ae_bif hv).1))
        (fun j' hv => by
          have hv : (bif Nat.blt j' (ae_sh T.2.1).2.2 then some (Value.long (g j')) else none) = none := hv
          show (bif Nat.blt j' (ae_sh T.2.1).2.2 then some _ else none) = none
          cases hbb : Nat.blt j' (ae_sh T.2.1).2.2 with
          | true => rw [hbb] at hv; cases hv
          | false => rfl)
        (fun j' v hv => by
          have hv : (bif Nat.blt j' (ae_sh T.2.1).2.2 then some (Value.long (va_cpy f g sp.toNatClampNeg dp.toNatClampNeg n.toNatClampNeg j')) else none) = some v := hv
          obtain ⟨hl, hv⟩ := ae_bif hv
          cases hv
          by_cases hin : dp.toNatClampNeg ≤ j' ∧ j' < dp.toNatClampNeg + n.toNatClampNeg
          · refine Or.inr ⟨sp.toNatClampNeg + (j' - dp.toNatClampNeg), ?_⟩
            rw [p1] at p3 ⊢
            show (h[i]?.bind fun e => ae_ec e _) = _
            rw [p3]
            show (bif Nat.blt (sp.toNatClampNeg + (j' - dp.toNatClampNeg)) (ae_sh (i + 1)).2.2 then some (Value.long (f (sp.toNatClampNeg + (j' - dp.toNatClampNeg)))) else none) = _
            rw [← p1, Nat.blt_eq.mpr (by omega)]
            show some (Value.long _) = some (Value.long (va_cpy f g _ _ _ j'))
            rw [show va_cpy f g sp.toNatClampNeg dp.toNatClampNeg n.toNatClampNeg j' = f (sp.toNatClampNeg + (j' - dp.toNatClampNeg)) from if_pos hin]
          · refine Or.inl ?_
            rw [q1] at q3 hl ⊢
            show (h[j]?.bind fun e => ae_ec e j') = _
            rw [q3]
            show (bif Nat.blt j' (ae_sh (j + 1)).2.2 then some (Value.long (g j')) else none) = _
            rw [hl]
            show some (Value.long _) = some (Value.long (va_cpy f g _ _ _ j'))
            rw [show va_cpy f g sp.toNatClampNeg dp.toNatClampNeg n.toNatClampNeg j' = g j' from if_neg hin])
      refine ⟨_, _, rfl, ?_, F2, _, List.mem_singleton.mpr rfl, rfl, ρ, ⟨Nat.le_refl _, ae_ag_rf _ _, gH.1⟩, gH.1, gH.2.1, H2, gH.2.2.2.1, z5⟩
      show (h[j]?.bind fun e0 => bif Nat.beq (am_sz e0) (ae_sh T.2.1).2.2 then some (h.set j _) else none) = _
      rw [q3]
      show (bif Nat.beq (ae_sh T.2.1).2.2 (ae_sh T.2.1).2.2 then some (h.set j _) else none) = _
      rw [Nat.beq_refl]; rfl
  · cases q
theorem ae_sy_ok {a : Nat} (gH : ae_mm ex ρ L xs k M lv st lw sw h) (q : ae_sy ex mo a pc k M lv st = some o) : ae_G ex mo ρ L xs k o (am_sys a pc lw sw h) h := by
  unfold ae_sy at q
  split at q
  · split at q
    · rename_i P R
      obtain ⟨hb, q⟩ := ae_bif q
      cases q
      obtain ⟨v, t, rfl, g1, g2⟩ := ae_sr1 gH.2.2.2.2
      obtain rfl := ae_ok2 g1 hb
      exact ae_G_pure gH gH.2.2.2.1 g2
    · cases q
  · obtain ⟨x, y, r, rfl, g⟩ := ae_sm_ok (mo := mo) gH q
    refine g (if y < x then y else x) (Or.inl ⟨rfl, ?_⟩)
    by_cases hc : y < x
    · rw [if_pos hc]
      have := Int32.lt_iff_toInt_lt.mp hc
      omega
    · rw [if_neg hc]
      have : ¬ y.toInt < x.toInt := fun q => hc (Int32.lt_iff_toInt_lt.mpr q)
      omega
  · obtain ⟨x, y, r, rfl, g⟩ := ae_sm_ok (mo := mo) gH q
    refine g (if x < y then y else x) (Or.inr ⟨rfl, ?_⟩)
    by_cases hc : x < y
    · rw [if_pos hc]
      have := Int32.lt_iff_toInt_lt.mp hc
      omega
    · rw [if_neg hc]
      have : ¬ x.toInt < y.toInt := fun q => hc (Int32.lt_iff_toInt_lt.mpr q)
      omega
  · exact ae_cpy_ok gH q
  · cases q
end AEY

/-! Loops that copy a row, or empty one -/
noncomputable def ae_cpd (z : Bool) (src so dst dO i L : Nat) (xs : Nat → Int32) (h0 h : List am_E) : Prop :=
  ae_shp h ∧ ∀ q j, ae_cell L xs h q j = bif Nat.beq q dst && Nat.ble dO j && Nat.blt j (dO + i) then (bif z then some (.int 0) else ae_cell L xs h0 src (so + (j - dO))) else ae_cell L xs h0 q j
section AGC
variable {z : Bool} {src so dst dO cnt i L : Nat} {xs : Nat → Int32} {h0 h h' : List am_E}
theorem ae_cpd_0 (hs : ae_shp h0) : ae_cpd z src so dst dO 0 L xs h0 h0 := by
  refine ⟨hs, fun q j => ?_⟩
  have e : (Nat.beq q dst && Nat.ble dO j && Nat.blt j (dO + 0)) = false := by
    cases hb : Nat.ble dO j with
    | false => rw [Bool.and_false, Bool.false_and]
    | true =>
      have := Nat.le_of_ble_eq_true hb
      have h2 : Nat.blt j (dO + 0) = false := by
        cases hc : Nat.blt j (dO + 0) with
        | false => rfl
        | true => have := Nat.blt_eq.mp hc; omega
      rw [h2, Bool.and_false]
  rw [e]; rfl
theorem ae_cpd_s {v : Value} (hd : ae_cpd z src so dst dO i L xs h0 h) (hw : ae_wr L xs h h' dst (dO + i) v) (hv : (bif z then some (.int 0) else ae_cell L xs h0 src (so + i)) = some v) : ae_cpd z src so dst dO (i + 1) L xs h0 h' := by
  refine ⟨hw.1, fun q j => ?_⟩
  by_cases hq : q = dst ∧ j = dO + i
  · obtain ⟨rfl, rfl⟩ := hq
    rw [hw.2.1, Nat.beq_refl, Nat.ble_eq_true_of_le (Nat.le_add_right _ _), Nat.blt_eq.mpr (by omega)]
    show some v = (bif z then some (.int 0) else ae_cell L xs h0 src (so + (dO + i - dO)))
    rw [show dO + i - dO = i by omega, hv]
  · rw [hw.2.2 q j hq, hd.2 q j]
    have e : (Nat.beq q dst && Nat.ble dO j && Nat.blt j (dO + i)) = (Nat.beq q dst && Nat.ble dO j && Nat.blt j (dO + (i + 1))) := by
      cases hb : Nat.beq q dst with
      | false => rfl
      | true =>
        have h1 := Nat.eq_of_beq_eq_true hb
        have h2 : Nat.blt j (dO + i) = Nat.blt j (dO + (i + 1)) := by
          have h3 : j ≠ dO + i := fun e => hq ⟨h1, e⟩
          by_cases h4 : j < dO + i
          · rw [Nat.blt_eq.mpr h4, Nat.blt_eq.mpr (by omega)]
          · have h5 : ∀ m, ¬ j < m → Nat.blt j m = false := fun m hm => by
              cases hc : Nat.blt j m with
              | false => rfl
              | true => exact absurd (Nat.blt_eq.mp hc) hm
            rw [h5 _ h4, h5 _ (by omega)]
        rw [h2]
    rw [e]
theorem ae_cpd_no (hd : ae_cpd z src so dst dO i L xs h0 h) {q j : Nat} (hn : q ≠ dst ∨ j < dO ∨ dO + i ≤ j) : ae_cell L xs h q j = ae_cell L xs h0 q j := by
  rw [hd.2 q j]
  have e : (Nat.beq q dst && Nat.ble dO j && Nat.blt j (dO + i)) = false := by
    cases hb : (Nat.beq q dst && Nat.ble dO j && Nat.blt j (dO + i)) with
    | false => rfl
    | true =>
      simp only [Bool.and_eq_true] at hb
      have h1 := Nat.eq_of_beq_eq_true hb.1.1
      have h2 := Nat.le_of_ble_eq_true hb.1.2
      have h3 := Nat.blt_eq.mp hb.2
      rcases hn with g | g | g
      · exact absurd h1 g
      · omega
      · omega
  rw [e]; rfl
theorem ae_cpd_at (hd : ae_cpd z src so dst dO cnt L xs h0 h) (hi : i < cnt) : ae_cell L xs h dst (dO + i) = (bif z then some (.int 0) else ae_cell L xs h0 src (so + i)) := by
  rw [hd.2 dst (dO + i), Nat.beq_refl, Nat.ble_eq_true_of_le (Nat.le_add_right _ _), Nat.blt_eq.mpr (by omega)]
  show (bif z then some (.int 0) else ae_cell L xs h0 src (so + (dO + i - dO))) = _
  rw [show dO + i - dO = i by omega]
/-- what such a loop needs of the tables -/
noncomputable def ae_cpi (z : Bool) (src j : Nat) : Nat × Int × Int := bif z then (0, 0, 0) else ae_iv src j
noncomputable def ae_cpv (z : Bool) (src so dst dO j : Nat) : Bool := Nat.beq (ae_cpi z src (so + j)).1 0 && Nat.beq (ae_iv dst (dO + j)).1 0 && ae_le (ae_iv dst (dO + j)).2.1 (ae_cpi z src (so + j)).2.1 && ae_le (ae_cpi z src (so + j)).2.2 (ae_iv dst (dO + j)).2.2
noncomputable def ae_cpu (z : Bool) (src b : Nat) : List (Nat × Int) → Int
  | [] => 0
  | t :: r => (bif ae_nn t.2 then t.2 * (ae_cpi z src (b + t.1)).2.2 else t.2 * (ae_cpi z src (b + t.1)).2.1) + ae_cpu z src b r
noncomputable def ae_cp1 (z : Bool) (src so dst dO cnt b : Nat) (ls : List (Int × List (Nat × Int))) : Bool :=
  (ae_of ls).all (fun o => Nat.blt (b + o) dO || Nat.ble (dO + cnt) (b + o)) ||
  ((ae_of ls).all (fun o => Nat.ble dO (b + o) && Nat.blt (b + o) (dO + cnt)) && Nat.ble dO (b + so) && (ls.any (fun l => ae_le (l.1 + ae_cpu z src (b + so - dO) l.2) 0) ||
    (!z && ae_fam.any fun g => Nat.beq g.1 src && decide (g.2.2.2.2.2 = ls) && (List.range g.2.2.2.1).any fun j => Nat.beq (g.2.1 + g.2.2.1 * j) (b + so - dO))))
noncomputable def ae_cpf (z : Bool) (src so dst dO cnt : Nat) : Bool := ae_fam.all fun f => !(Nat.beq f.1 dst) || (List.range f.2.2.2.1).all fun i => ae_cp1 z src so dst dO cnt (f.2.1 + f.2.2.1 * i) f.2.2.2.2.2
theorem ae_ls_tr {p b p' b' : Nat} : ∀ {l : List (Nat × Int)}, (∀ t ∈ l, ae_cell L xs h' p (b + t.1) = ae_cell L xs h p' (b' + t.1)) → ae_ls L xs h' p b l = ae_ls L xs h p' b' l
  | [], _ => rfl
  | t :: r, q => by
    show t.2 * ae_iz (ae_cell L xs h' p (b + t.1)) + ae_ls L xs h' p b r = t.2 * ae_iz (ae_cell L xs h p' (b' + t.1)) + ae_ls L xs h p' b' r
    rw [q t List.mem_cons_self, ae_ls_tr (fun u hu => q u (List.mem_cons_of_mem _ hu))]
theorem ae_ls_ub {p b b' : Nat} : ∀ {l : List (Nat × Int)}, (∀ t ∈ l, (ae_cpi z src (b' + t.1)).2.1 ≤ ae_iz (ae_cell L xs h p (b + t.1)) ∧ ae_iz (ae_cell L xs h p (b + t.1)) ≤ (ae_cpi z src (b' + t.1)).2.2) → ae_ls L xs h p b l ≤ ae_cpu z src b' l
  | [], _ => Int.le_refl _
  | t :: r, q => by
    have h1 := ae_ls_ub (l := r) (fun u hu => q u (List.mem_cons_of_mem _ hu))
    obtain ⟨q1, q2⟩ := q t List.mem_cons_self
    show t.2 * ae_iz (ae_cell L xs h p (b + t.1)) + ae_ls L xs h p b r ≤ (bif ae_nn t.2 then t.2 * (ae_cpi z src (b' + t.1)).2.2 else t.2 * (ae_cpi z src (b' + t.1)).2.1) + ae_cpu z src b' r
    cases hn : ae_nn t.2 with
    | true =>
      have := Int.mul_le_mul_of_nonneg_left q2 (ae_nn_iff.mp hn)
      show _ ≤ t.2 * (ae_cpi z src (b' + t.1)).2.2 + ae_cpu z src b' r
      omega
    | false =>
      have h2 : t.2 ≤ 0 := by
        by_cases g : 0 ≤ t.2
        · rw [ae_nn_iff.mpr g] at hn; cases hn
        · omega
      have := Int.mul_le_mul_of_nonpos_left h2 q1
      show _ ≤ t.2 * (ae_cpi z src (b' + t.1)).2.1 + ae_cpu z src b' r
      omega
theorem ae_cp_hk (hS : z = true ∨ (0 < src ∧ src ≤ ae_np ∧ so + cnt ≤ (ae_sh src).2.2)) (q1 : (List.range cnt).all (ae_cpv z src so dst dO) = true) (q2 : ae_cpf z src so dst dO cnt = true) (hk : ae_hk false L xs h0) (hd : ae_cpd z src so dst dO cnt L xs h0 h) : ae_hk false L xs h := by
  have hz : ∀ j v, j < cnt → ae_cell L xs h dst (dO + j) = some v → ∃ x : Int32, v = .int x ∧ (ae_cpi z src (so + j)).2.1 ≤ x.toInt ∧ x.toInt ≤ (ae_cpi z src (so + j)).2.2 := by
    intro j v hj hv
    rw [ae_cpd_at hd hj] at hv
    have h1 := List.all_eq_true.mp q1 j (List.mem_range.mpr hj)
    unfold ae_cpv at h1
    simp only [Bool.and_eq_true] at h1
    have h2 := Nat.eq_of_beq_eq_true h1.1.1.1
    cases hzz : z with
    | true =>
      rw [hzz] at hv
      cases hv
      exact ⟨0, rfl, Int.le_refl _, Int.le_refl _⟩
    | false =>
      rw [hzz] at hv h2
      rcases hS with g | g
      · rw [g] at hzz; cases hzz
      · have h2 : (ae_iv src (so + j)).1 = 0 := h2
        rcases hk.2.1 src (so + j) v g.1 hv with g2 | g2
        · unfold ae_io at g2
          rw [h2] at g2
          exact g2
        · cases g2.1
  refine ⟨hd.1, fun p j v hp hc => ?_, fun f hf i hi => ?_⟩
  · by_cases hin : p = dst ∧ dO ≤ j ∧ j < dO + cnt
    · obtain ⟨rfl, l1, l2⟩ := hin
      obtain ⟨x, rfl, g1, g2⟩ := hz (j - dO) v (by omega) (by rw [show dO + (j - dO) = j by omega]; exact hc)
      have h1 := List.all_eq_true.mp q1 (j - dO) (List.mem_range.mpr (by omega))
      unfold ae_cpv at h1
      simp only [Bool.and_eq_true] at h1
      rw [show dO + (j - dO) = j by omega] at h1
      have h2 := Nat.eq_of_beq_eq_true h1.1.1.2
      have h3 := ae_le_iff.mp h1.1.2
      have h4 := ae_le_iff.mp h1.2
      refine Or.inl ?_
      unfold ae_io
      rw [h2]
      exact ⟨x, rfl, Int.le_trans h3 g1, Int.le_trans g2 h4⟩
    · rw [ae_cpd_no hd (by
        by_cases e1 : p = dst
        · by_cases e2 : dO ≤ j
          · exact Or.inr (Or.inr (by
              rcases Nat.lt_or_ge j (dO + cnt) with g | g
              · exact absurd ⟨e1, e2, g⟩ hin
              · exact g))
          · exact Or.inr (Or.inl (by omega))
        · exact Or.inl e1)] at hc
      exact hk.2.1 p j v hp hc
  · refine Or.inl ?_
    have hc0 : ∀ g ∈ ae_fam, ∀ i, i < g.2.2.2.1 → ae_cl L xs h0 g.1 (g.2.1 + g.2.2.1 * i) g.2.2.2.2.2 := fun g hg i hi => by
      rcases hk.2.2 g hg i hi with g1 | g1
      · exact g1
      · cases g1.1
    have h1 := List.all_eq_true.mp q2 f hf
    rw [Bool.or_eq_true] at h1
    rcases h1 with h1 | h1
    · have hne : f.1 ≠ dst := fun e => by rw [e, Nat.beq_refl] at h1; cases h1
      exact ae_cl_eq (fun o _ => ae_cpd_no hd (Or.inl hne)) (hc0 f hf i hi)
    · have h2 := List.all_eq_true.mp h1 i (List.mem_range.mpr hi)
      by_cases hfd : f.1 = dst
      · unfold ae_cp1 at h2
        rw [Bool.or_eq_true] at h2
        rcases h2 with h2 | h2
        · refine ae_cl_eq (fun o ho => ae_cpd_no hd (Or.inr ?_)) (hc0 f hf i hi)
          have h3 := List.all_eq_true.mp h2 o ho
          rw [Bool.or_eq_true] at h3
          rcases h3 with h3 | h3
          · exact Or.inl (Nat.blt_eq.mp h3)
          · exact Or.inr (Nat.le_of_ble_eq_true h3)
        · simp only [Bool.and_eq_true] at h2
          obtain ⟨⟨h2, h2b⟩, h3⟩ := h2
          have h2b := Nat.le_of_ble_eq_true h2b
          have hin : ∀ o ∈ ae_of f.2.2.2.2.2, dO ≤ f.2.1 + f.2.2.1 * i + o ∧ f.2.1 + f.2.2.1 * i + o < dO + cnt := fun o ho => by
            have := List.all_eq_true.mp h2 o ho
            rw [Bool.and_eq_true] at this
            exact ⟨Nat.le_of_ble_eq_true this.1, Nat.blt_eq.mp this.2⟩
          rw [Bool.or_eq_true] at h3
          rcases h3 with h3 | h3
          · obtain ⟨l, hl, h4⟩ := List.any_eq_true.mp h3
            have h4 := ae_le_iff.mp h4
            refine ⟨l, hl, ?_⟩
            have h5 : ae_ls L xs h f.1 (f.2.1 + f.2.2.1 * i) l.2 ≤ ae_cpu z src (f.2.1 + f.2.2.1 * i + so - dO) l.2 := by
              refine ae_ls_ub (fun t ht => ?_)
              have ho : t.1 ∈ ae_of f.2.2.2.2.2 := List.mem_flatMap.mpr ⟨l, hl, List.mem_map.mpr ⟨t, ht, rfl⟩⟩
              obtain ⟨l1, l2⟩ := hin t.1 ho
              have h6 := List.all_eq_true.mp q1 (f.2.1 + f.2.2.1 * i + t.1 - dO) (List.mem_range.mpr (by omega))
              have e1 : dO + (f.2.1 + f.2.2.1 * i + t.1 - dO) = f.2.1 + f.2.2.1 * i + t.1 := by omega
              have e2 : so + (f.2.1 + f.2.2.1 * i + t.1 - dO) = f.2.1 + f.2.2.1 * i + so - dO + t.1 := by omega
              have hex : ∃ v, ae_cell L xs h dst (f.2.1 + f.2.2.1 * i + t.1) = some v := by
                have h7 := ae_cpd_at hd (i := f.2.1 + f.2.2.1 * i + t.1 - dO) (by omega)
                rw [e1] at h7
                rw [h7]
                cases hzz : z with
                | true => exact ⟨_, rfl⟩
                | false =>
                  rcases hS with g | g
                  · rw [g] at hzz; cases hzz
                  · exact ae_cell_ex hk.1 g.1 g.2.1 (by omega)
              obtain ⟨v, hv⟩ := hex
              obtain ⟨x, rfl, g1, g2⟩ := hz (f.2.1 + f.2.2.1 * i + t.1 - dO) v (by omega) (by rw [e1]; exact hv)
              rw [e2] at g1 g2
              rw [hfd, hv]
              exact ⟨g1, g2⟩
            omega
          · rw [Bool.and_eq_true, Bool.not_eq_true'] at h3
            obtain ⟨hzz, h3⟩ := h3
            obtain ⟨g, hg, h4⟩ := List.any_eq_true.mp h3
            simp only [Bool.and_eq_true] at h4
            obtain ⟨⟨g1, g2⟩, g3⟩ := h4
            obtain ⟨j, hj, g4⟩ := List.any_eq_true.mp g3
            have g1 := Nat.eq_of_beq_eq_true g1
            have g2 := of_decide_eq_true g2
            have g4 := Nat.eq_of_beq_eq_true g4
            obtain ⟨l, hl, h5⟩ := hc0 g hg j (List.mem_range.mp hj)
            rw [g2] at hl
            refine ⟨l, hl, ?_⟩
            rw [g1, g4] at h5
            rw [ae_ls_tr (p' := src) (b' := f.2.1 + f.2.2.1 * i + so - dO) (h := h0) (fun t ht => ?_)]
            · exact h5
            · have ho : t.1 ∈ ae_of f.2.2.2.2.2 := List.mem_flatMap.mpr ⟨l, hl, List.mem_map.mpr ⟨t, ht, rfl⟩⟩
              obtain ⟨l1, l2⟩ := hin t.1 ho
              have h7 := ae_cpd_at hd (i := f.2.1 + f.2.2.1 * i + t.1 - dO) (by omega)
              rw [hzz] at h7
              rw [hfd]
              have e1 : dO + (f.2.1 + f.2.2.1 * i + t.1 - dO) = f.2.1 + f.2.2.1 * i + t.1 := by omega
              have e2 : so + (f.2.1 + f.2.2.1 * i + t.1 - dO) = f.2.1 + f.2.2.1 * i + so - dO + t.1 := by omega
              rw [e1, e2] at h7
              exact h7
      · exact ae_cl_eq (fun o _ => ae_cpd_no hd (Or.inl hfd)) (hc0 f hf i hi)
end AGC
/-! one instruction of such a loop -/
section AGS
variable {L : Nat} {xs : Nat → Int32} {n d y pc a b : Nat} {lw : am_L} {sw : List Value} {h : List am_E} {r : Option Value × List am_E}
theorem ag_il {m : Fin 4} {v : Int32} (hc : am_code y pc = some (.iload_n m, a, b)) (hl : am_lk lw m.val = some (.int v)) (hg : am_go L xs n d y (pc + 1) lw (.int v :: sw) h = some r) : am_go L xs (n + 1) d y pc lw sw h = some r :=
  am_st1 (z := (pc + 1, lw, .int v :: sw, none)) hc rfl rfl (by show (am_gi lw m.val).bind _ = _; unfold am_gi; rw [hl]; rfl) rfl hg
theorem ag_il2 {m : Nat} {v : Int32} (hc : am_code y pc = some (.iload m, a, b)) (hl : am_lk lw m = some (.int v)) (hg : am_go L xs n d y (pc + 2) lw (.int v :: sw) h = some r) : am_go L xs (n + 1) d y pc lw sw h = some r :=
  am_st1 (z := (pc + 2, lw, .int v :: sw, none)) hc rfl rfl (by show (am_gi lw m).bind _ = _; unfold am_gi; rw [hl]; rfl) rfl hg
theorem ag_al {m : Fin 4} {p : Nat} (hc : am_code y pc = some (.aload_n m, a, b)) (hl : am_lk lw m.val = some (.ref p)) (hg : am_go L xs n d y (pc + 1) lw (.ref p :: sw) h = some r) : am_go L xs (n + 1) d y pc lw sw h = some r :=
  am_st1 (z := (pc + 1, lw, .ref p :: sw, none)) hc rfl rfl (by show (am_gr lw m.val).bind _ = _; unfold am_gr; rw [hl]; rfl) rfl hg
theorem ag_bi {m : Int} {v : Int32} (hc : am_code y pc = some (.bipush m, a, b)) (hv : (Int8.ofInt m).toInt32 = v) (hg : am_go L xs n d y (pc + 2) lw (.int v :: sw) h = some r) : am_go L xs (n + 1) d y pc lw sw h = some r :=
  am_st1 (z := (pc + 2, lw, .int v :: sw, none)) hc rfl rfl (by rw [← hv]; rfl) rfl hg
theorem ag_si {m : Int} {v : Int32} (hc : am_code y pc = some (.sipush m, a, b)) (hv : (Int16.ofInt m).toInt32 = v) (hg : am_go L xs n d y (pc + 3) lw (.int v :: sw) h = some r) : am_go L xs (n + 1) d y pc lw sw h = some r :=
  am_st1 (z := (pc + 3, lw, .int v :: sw, none)) hc rfl rfl (by rw [← hv]; rfl) rfl hg
theorem ag_ic {m : Int} {v : Int32} (hc : am_code y pc = some (.iconst m, a, b)) (hv : Int32.ofInt m = v) (hg : am_go L xs n d y (pc + 1) lw (.int v :: sw) h = some r) : am_go L xs (n + 1) d y pc lw sw h = some r :=
  am_st1 (z := (pc + 1, lw, .int v :: sw, none)) hc rfl rfl (by rw [← hv]; rfl) rfl hg
theorem ag_go {o : Int} (hc : am_code y pc = some (.goto o, a, b)) (hg : am_go L xs n d y a lw sw h = some r) : am_go L xs (n + 1) d y pc lw sw h = some r :=
  am_st1 (z := (a, lw, sw, none)) hc rfl rfl rfl rfl hg
theorem ag_inc {m : Nat} {k : Int} {v : Int32} (hc : am_code y pc = some (.iinc m k, a, b)) (hL : Nat.blt m (am_inf y).2.2.1 = true) (hl : am_lk lw m = some (.int v)) (hg : am_go L xs n d y (pc + 3) (am_put1 lw m (.int (v + Int32.ofInt k))) sw h = some r) : am_go L xs (n + 1) d y pc lw sw h = some r :=
  am_st1 (z := (pc + 3, am_put1 lw m (.int (v + Int32.ofInt k)), sw, none)) hc rfl rfl (by show am_if (Nat.blt m (am_inf y).2.2.1) _ = _; rw [hL]; show (am_gi lw m).bind _ = _; unfold am_gi; rw [hl]; rfl) rfl hg
theorem ag_mul {v w : Int32} (hc : am_code y pc = some (.imul, a, b)) (hg : am_go L xs n d y (pc + 1) lw (.int (v * w) :: sw) h = some r) : am_go L xs (n + 1) d y pc lw (.int w :: .int v :: sw) h = some r :=
  am_st1 (z := (pc + 1, lw, .int (v * w) :: sw, none)) hc rfl rfl rfl rfl hg
theorem ag_add {v w : Int32} (hc : am_code y pc = some (.iadd, a, b)) (hg : am_go L xs n d y (pc + 1) lw (.int (v + w) :: sw) h = some r) : am_go L xs (n + 1) d y pc lw (.int w :: .int v :: sw) h = some r :=
  am_st1 (z := (pc + 1, lw, .int (v + w) :: sw, none)) hc rfl rfl rfl rfl hg
theorem ag_ge1 {o : Int} {v w : Int32} (hc : am_code y pc = some (.if_icmp .ge o, a, b)) (hv : w.toInt ≤ v.toInt) (hg : am_go L xs n d y a lw sw h = some r) : am_go L xs (n + 1) d y pc lw (.int w :: .int v :: sw) h = some r :=
  am_st1 (z := (a, lw, sw, none)) hc rfl rfl (by show some (bif am_cm2 .ge v w then a else pc + 3, lw, sw, none) = _; rw [show am_cm2 .ge v w = true from decide_eq_true (Int32.le_iff_toInt_le.mpr hv)]; rfl) rfl hg
theorem ag_ge0 {o : Int} {v w : Int32} (hc : am_code y pc = some (.if_icmp .ge o, a, b)) (hv : v.toInt < w.toInt) (hg : am_go L xs n d y (pc + 3) lw sw h = some r) : am_go L xs (n + 1) d y pc lw (.int w :: .int v :: sw) h = some r :=
  am_st1 (z := (pc + 3, lw, sw, none)) hc rfl rfl (by show some (bif am_cm2 .ge v w then a else pc + 3, lw, sw, none) = _; rw [show am_cm2 .ge v w = false from decide_eq_false (fun q => by have := Int32.le_iff_toInt_le.mp q; omega)]; rfl) rfl hg
theorem ag_get {w : Nat} {p : Nat} {v : Value} (hc : am_code y pc = some (.getfield w, a, b)) (hs : ae_shp h) (ho : ae_isO p a b = true) (hcell : ae_cell L xs h p b = some v) (hg : am_go L xs n d y (pc + 3) lw (v :: sw) h = some r) : am_go L xs (n + 1) d y pc lw (.ref p :: sw) h = some r := by
  obtain ⟨i, fs, rfl, h2, h3, h4, h5, h6⟩ := ae_obj hs ho
  have h7 : fs[b]? = some v := by
    have : (h[i]?.bind fun e => ae_ec e b) = some v := hcell
    rw [h3] at this
    exact this
  exact am_st1 (z := (pc + 3, lw, v :: sw, none)) hc rfl rfl (by show (am_ob h (i + 1) a).bind _ = _; rw [h6]; show (fs[b]?.bind _) = _; rw [h7]; rfl) rfl hg
theorem ag_ix {x : Int32} {j : Nat} (hx : x.toInt = (j : Int)) : x.toNatClampNeg = j := by
  have := ae_clamp (x := x) (by omega)
  omega
theorem ag_ia {p j : Nat} {x v : Int32} (hc : am_code y pc = some (.iaload, a, b)) (hs : ae_shp h) (ho : ae_isA p 0 = true) (hx : x.toInt = (j : Int)) (hj : j < (ae_sh p).2.2) (hcell : ae_cell L xs h p j = some (.int v)) (hg : am_go L xs n d y (pc + 1) lw (.int v :: sw) h = some r) : am_go L xs (n + 1) d y pc lw (.int x :: .ref p :: sw) h = some r := by
  obtain ⟨i, c, rfl, h2, h3, h4, -, -⟩ := ae_arr hs ho
  obtain ⟨f, rfl⟩ := h4 (by omega)
  have hv : f j = v := by
    have h7 : (h[i]?.bind fun e => ae_ec e j) = some (.int v) := hcell
    rw [h3] at h7
    have h7 : (bif Nat.blt j (ae_sh (i + 1)).2.2 then some (Value.int (f j)) else none) = some (.int v) := h7
    rw [Nat.blt_eq.mpr hj] at h7
    cases h7; rfl
  refine am_st1 (z := (pc + 1, lw, .int v :: sw, none)) hc rfl rfl ?_ rfl hg
  show (am_ai h (i + 1) 0).bind _ = _
  have h8 : am_ai h (i + 1) 0 = some ((ae_sh (i + 1)).2.2, f) := by
    show (match h[i]? with
      | some (.inl (c, n, .inl f)) => am_if (Nat.beq c 0) (some (n, f))
      | _ => none) = _
    rw [h3]; rfl
  rw [h8]
  show am_if (am_in x (ae_sh (i + 1)).2.2) _ = _
  rw [ae_in_ok (by omega) (by omega), ag_ix hx]
  show some (pc + 1, lw, Value.int (f j) :: sw, none) = _
  rw [hv]
theorem ag_st {p j : Nat} {x v : Int32} (hc : am_code y pc = some (.iastore, a, b)) (hs : ae_shp h) (ho : ae_isA p 0 = true) (hx : x.toInt = (j : Int)) (hj : j < (ae_sh p).2.2) : ∃ h', ae_wr L xs h h' p j (.int v) ∧ ∀ n r, am_go L xs n d y (pc + 1) lw sw h' = some r → am_go L xs (n + 1) d y pc lw (.int v :: .int x :: .ref p :: sw) h = some r := by
  obtain ⟨i, c, rfl, h2, h3, h4, -, -⟩ := ae_arr hs ho
  obtain ⟨f, rfl⟩ := h4 (by omega)
  obtain ⟨g1, g2⟩ := ae_set_i (L := L) (xs := xs) hs h2 h3 hj v
  refine ⟨_, g2, fun n r hg => am_st1 (z := (pc + 1, lw, sw, some (some i, .inl (0, (ae_sh (i + 1)).2.2, .inl (upd f j v))))) hc rfl rfl ?_ g1 hg⟩
  show (am_ai h (i + 1) 0).bind _ = _
  have h8 : am_ai h (i + 1) 0 = some ((ae_sh (i + 1)).2.2, f) := by
    show (match h[i]? with
      | some (.inl (c, n, .inl f)) => am_if (Nat.beq c 0) (some (n, f))
      | _ => none) = _
    rw [h3]; rfl
  rw [h8]
  show am_if (am_in x (ae_sh (i + 1)).2.2) _ = _
  rw [ae_in_ok (by omega) (by omega), ag_ix hx]; rfl
theorem ag_lk1 {i : Nat} {v : Value} : am_lk (am_put1 lw i v) i = some v := by
  show (bif Nat.beq i i then some v else _) = some v
  rw [Nat.beq_refl]; rfl
theorem ag_lk2 {i j : Nat} {v w : Value} (hj : j ≠ i) (hw : j + 1 = i → w.category = 1) (hl : am_lk lw j = some w) : am_lk (am_put1 lw i v) j = some w := by
  show (bif Nat.beq i j then some v else am_lk (lw.filter _) j) = some w
  have e : Nat.beq i j = false := by
    cases hb : Nat.beq i j with
    | true => exact absurd (Nat.eq_of_beq_eq_true hb).symm hj
    | false => rfl
  rw [e]
  refine ae_lk_fil ?_ hl
  show (!(j == i) && !(j + 1 == i && w.category == 2)) = true
  have e2 : (j == i) = false := beq_false_of_ne hj
  rw [e2]
  by_cases h1 : j + 1 = i
  · rw [hw h1]; simp
  · have e3 : (j + 1 == i) = false := beq_false_of_ne h1
    rw [e3]; rfl
theorem ag_w {x : Int32} {i : Nat} (hx : x.toInt = (i : Int)) (hi : i < 100000) : (x + Int32.ofInt 1).toInt = ((i + 1 : Nat) : Int) := by
  rw [ae_w_add, hx, show (Int32.ofInt 1).toInt = 1 from rfl, ae_w32_rg (by omega) (by omega)]
  omega
theorem ag_wa {x w : Int32} {i j : Nat} (hx : x.toInt = (i : Int)) (hw : w.toInt = (j : Int)) (hi : i < 100000) (hj : j < 100000) : (x + w).toInt = ((i + j : Nat) : Int) := by
  rw [ae_w_add, hx, hw, ae_w32_rg (by omega) (by omega)]
  omega
end AGS
/-! the whole loop -/
section AGL
variable {z : Bool} {src so dst dO cnt k y pc ex d L : Nat} {xs : Nat → Int32} {h0 : List am_E} {C : am_L → Prop}
theorem ae_loop (hC : ∀ lw v, C lw → C (am_put1 lw k (.int v)))
    (it : ∀ (i : Nat) (lw : am_L) (h : List am_E) (x : Int32), i < cnt → ae_cpd z src so dst dO i L xs h0 h → C lw → am_lk lw k = some (.int x) → x.toInt = (i : Int) → ∃ h' v, ae_wr L xs h h' dst (dO + i) v ∧ (bif z then some (.int 0) else ae_cell L xs h0 src (so + i)) = some v ∧ ∀ n r, am_go L xs n d y pc (am_put1 lw k (.int (x + Int32.ofInt 1))) [] h' = some r → ∃ n', am_go L xs n' d y pc lw [] h = some r)
    (et : ∀ (lw : am_L) (h : List am_E) (x : Int32), ae_cpd z src so dst dO cnt L xs h0 h → C lw → am_lk lw k = some (.int x) → x.toInt = (cnt : Int) → ∀ n r, am_go L xs n d y ex lw [] h = some r → ∃ n', am_go L xs n' d y pc lw [] h = some r) (hcnt : cnt < 100000) :
    ∀ (m i : Nat) (lw : am_L) (h : List am_E) (x : Int32), i + m = cnt → ae_cpd z src so dst dO i L xs h0 h → C lw → am_lk lw k = some (.int x) → x.toInt = (i : Int) →
      ∃ h2 lw2, ae_cpd z src so dst dO cnt L xs h0 h2 ∧ (∀ j, j ≠ k → ∀ v, (j + 1 = k → v.category = 1) → am_lk lw j = some v → am_lk lw2 j = some v) ∧ ∀ n r, am_go L xs n d y ex lw2 [] h2 = some r → ∃ n', am_go L xs n' d y pc lw [] h = some r := by
  intro m
  induction m with
  | zero =>
    intro i lw h x hm hd hc hl hx
    have e : i = cnt := by omega
    rw [e] at hd hx
    exact ⟨h, lw, hd, fun _ _ _ _ g => g, et lw h x hd hc hl hx⟩
  | succ m ih =>
    intro i lw h x hm hd hc hl hx
    obtain ⟨h', v, hw, hv, hr⟩ := it i lw h x (by omega) hd hc hl hx
    obtain ⟨h2, lw2, g1, g2, g3⟩ := ih (i + 1) (am_put1 lw k (.int (x + Int32.ofInt 1))) h' (x + Int32.ofInt 1) (by omega) (ae_cpd_s hd hw hv) (hC lw _ hc) ag_lk1 (ag_w hx (by omega))
    refine ⟨h2, lw2, g1, fun j hj v hv1 hv2 => g2 j hj v hv1 (ag_lk2 hj hv1 hv2), fun n r hn => ?_⟩
    obtain ⟨n1, hn1⟩ := g3 n r hn
    exact hr n1 r hn1
theorem ae_mk1 {lw : am_L} {x : Int32} {mo : ae_Mo} {tr : List (Nat × Nat × Nat × Nat × Nat)} {lo hi : Int} (hk : ae_hk false L xs h0) (hS : z = true ∨ (0 < src ∧ src ≤ ae_np ∧ so + cnt ≤ (ae_sh src).2.2)) (q1 : (List.range cnt).all (ae_cpv z src so dst dO) = true) (q2 : ae_cpf z src so dst dO cnt = true)
    (hmo : mo = [(dst, lo, hi)]) (hlo : lo ≤ (dO : Int)) (hhi : ((dO + cnt : Nat) : Int) ≤ hi + 1) (htr : ∀ t ∈ tr, z = false ∧ t = (src, so, dst, dO, cnt))
    (hC : ∀ lw v, C lw → C (am_put1 lw k (.int v))) (h0C : C lw) (hl : am_lk lw k = some (.int x)) (hx : x.toInt = 0)
    (it : ∀ (i : Nat) (lw : am_L) (h : List am_E) (x : Int32), i < cnt → ae_cpd z src so dst dO i L xs h0 h → C lw → am_lk lw k = some (.int x) → x.toInt = (i : Int) → ∃ h' v, ae_wr L xs h h' dst (dO + i) v ∧ (bif z then some (.int 0) else ae_cell L xs h0 src (so + i)) = some v ∧ ∀ n r, am_go L xs n d y pc (am_put1 lw k (.int (x + Int32.ofInt 1))) [] h' = some r → ∃ n', am_go L xs n' d y pc lw [] h = some r)
    (et : ∀ (lw : am_L) (h : List am_E) (x : Int32), ae_cpd z src so dst dO cnt L xs h0 h → C lw → am_lk lw k = some (.int x) → x.toInt = (cnt : Int) → ∀ n r, am_go L xs n d y ex lw [] h = some r → ∃ n', am_go L xs n' d y pc lw [] h = some r) (hcnt : cnt < 100000) :
    ∃ h2 lw2, ae_hk false L xs h2 ∧ ae_fr mo L xs h0 h2 ∧ (∀ i, i ≠ k → ∀ v, (i + 1 = k → v.category = 1) → am_lk lw i = some v → am_lk lw2 i = some v) ∧
      (∀ t ∈ tr, ∀ j, j < t.2.2.2.2 → ae_cell L xs h2 t.2.2.1 (t.2.2.2.1 + j) = ae_cell L xs h0 t.1 (t.2.1 + j)) ∧ ∀ n r, am_go L xs n d y ex lw2 [] h2 = some r → ∃ n', am_go L xs n' d y pc lw [] h0 = some r := by
  obtain ⟨h2, lw2, g1, g2, g3⟩ := ae_loop hC it et hcnt cnt 0 lw h0 x (by omega) (ae_cpd_0 hk.1) h0C hl (by rw [hx]; rfl)
  refine ⟨h2, lw2, ae_cp_hk hS q1 q2 hk g1, fun p j hpj => ae_cpd_no g1 ?_, g2, fun t ht j hj => ?_, g3⟩
  · rw [hmo] at hpj
    by_cases e1 : p = dst
    · by_cases e2 : dO ≤ j ∧ j < dO + cnt
      · exfalso
        have : ae_inm [(dst, lo, hi)] p j = true := List.any_eq_true.mpr ⟨(dst, lo, hi), List.mem_singleton.mpr rfl, by
          rw [e1]
          show (Nat.beq dst dst && ae_le lo (j : Int) && ae_le (j : Int) hi) = true
          rw [Nat.beq_refl, ae_le_iff.mpr (by omega), ae_le_iff.mpr (by omega)]; rfl⟩
        rw [this] at hpj
        cases hpj
      · exact Or.inr (by omega)
    · exact Or.inl e1
  · obtain ⟨hz, rfl⟩ := htr t ht
    have := ae_cpd_at g1 (i := j) hj
    rw [hz] at this
    exact this
/-- a field that holds a place -/
theorem ae_fld {p a b v : Nat} {h : List am_E} (hk : ae_hk false L xs h) (h1 : ae_isO p a b = true) (h2 : (ae_iv p b).1 = 2) (h3 : (ae_iv p b).2.1 = (v : Int)) : ae_cell L xs h p b = some (.ref v) := by
  obtain ⟨i, fs, rfl, g2, g3, g4, g5, g6⟩ := ae_obj hk.1 h1
  obtain ⟨w, hw⟩ := ae_cell_ex (L := L) (xs := xs) (p := i + 1) (j := b) hk.1 (by omega) g2 (by omega)
  rcases hk.2.1 (i + 1) b w (by omega) hw with g | g
  · unfold ae_io at g
    rw [h2, h3] at g
    have g : w = .ref ((v : Int)).toNat := g
    rw [hw, g]; rfl
  · cases g.1
/-- a cell that holds a number -/
theorem ae_nmb {p b : Nat} {lo hi : Int} {h : List am_E} (hk : ae_hk false L xs h) (hp : 0 < p) (hn : p ≤ ae_np) (hj : b < (ae_sh p).2.2) (h2 : ae_iv p b = (0, lo, hi)) : ∃ v : Int32, ae_cell L xs h p b = some (.int v) ∧ lo ≤ v.toInt ∧ v.toInt ≤ hi := by
  obtain ⟨w, hw⟩ := ae_cell_ex (L := L) (xs := xs) hk.1 hp hn hj
  rcases hk.2.1 p b w hp hw with g | g
  · rw [h2] at g
    obtain ⟨x, rfl, g1, g2⟩ := g
    exact ⟨x, hw, g1, g2⟩
  · cases g.1
theorem ae_aie {p j : Nat} {h : List am_E} (hs : ae_shp h) (ho : ae_isA p 0 = true) (hj : j < (ae_sh p).2.2) : ∃ v : Int32, ae_cell L xs h p j = some (.int v) := by
  obtain ⟨i, c, rfl, h2, h3, h4, -, -⟩ := ae_arr hs ho
  obtain ⟨f, rfl⟩ := h4 (by omega)
  refine ⟨f j, ?_⟩
  show (h[i]?.bind fun e => ae_ec e j) = some (.int (f j))
  rw [h3]
  show (bif Nat.blt j (ae_sh (i + 1)).2.2 then some (Value.int (f j)) else none) = some (.int (f j))
  rw [Nat.blt_eq.mpr hj]; rfl
end AGL
theorem ae_mmc {c : ae_Mc} (t : ae_MOK c) {r : List ae_Mc} (u : ∀ c ∈ r, ae_MOK c) : ∀ c' ∈ c :: r, ae_MOK c' := fun c' q => by
  rcases List.mem_cons.mp q with rfl | q
  · exact t
  · exact u c' q
theorem ae_sfc {pc : Nat} {pre : List (Int × Int)} {c : ae_Ct} (t : ae_CS pc pre c) {r : List (Nat × List (Int × Int) × ae_Ct)} (u : ∀ c ∈ r, ae_CS c.1 c.2.1 c.2.2) : ∀ c' ∈ (pc, pre, c) :: r, ae_CS c'.1 c'.2.1 c'.2.2 := fun c' q => by
  rcases List.mem_cons.mp q with rfl | q
  · exact t
  · exact u c' q

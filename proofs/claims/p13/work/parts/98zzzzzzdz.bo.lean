/-! How many boys are at a side: both count the same -/
theorem rs_int {L : Nat} {xs : Nat → Int32} {h : List am_E} (k : ae_hk false L xs h) {p j : Nat} (hp : 0 < p ∧ p ≤ ae_np ∧ j < (ae_sh p).2.2) (hi : (ae_iv p j).1 = 0) : ∃ x : Int32, ae_cell L xs h p j = some (.int x) ∧ x.toInt = aq_ci L xs h p j ∧ (ae_iv p j).2.1 ≤ x.toInt ∧ x.toInt ≤ (ae_iv p j).2.2 := by
  obtain ⟨v, hv⟩ := ae_cell_ex (L := L) (xs := xs) k.1 hp.1 hp.2.1 hp.2.2
  rcases k.2.1 p j v hp.1 hv with g | g
  · unfold ae_io at g
    rw [hi] at g
    obtain ⟨x, rfl, h1, h2⟩ := g
    exact ⟨x, hv, by unfold aq_ci; rw [hv]; rfl, h1, h2⟩
  · exact absurd g.1 (by decide)
noncomputable def bo_cnt (f : Nat → Int) (s : Int) : Nat → Int
  | 0 => 0
  | n + 1 => bo_cnt f s n + (if f n = s then 1 else 0)
theorem bo_rg (f : Nat → Int) (s : Int) : ∀ n : Nat, 0 ≤ bo_cnt f s n ∧ bo_cnt f s n ≤ (n : Int)
  | 0 => ⟨Int.le_refl _, Int.le_refl _⟩
  | n + 1 => by
    obtain ⟨a, b⟩ := bo_rg f s n
    unfold bo_cnt
    split <;> omega
section BOA
variable {L : Nat} {xs : Nat → Int32} {n d y pc a b : Nat} {lw : am_L} {sw : List Value} {h : List am_E} {r : Option Value × List am_E}
theorem ag_in1 {o : Int} {v w : Int32} (hc : am_code y pc = some (.if_icmp .ne o, a, b)) (hv : v ≠ w) (hg : am_go L xs n d y a lw sw h = some r) : am_go L xs (n + 1) d y pc lw (.int w :: .int v :: sw) h = some r :=
  am_st1 (z := (a, lw, sw, none)) hc rfl rfl (by show some (bif am_cm2 .ne v w then a else pc + 3, lw, sw, none) = _; rw [show am_cm2 .ne v w = true from decide_eq_true hv]; rfl) rfl hg
theorem ag_in0 {o : Int} {v w : Int32} (hc : am_code y pc = some (.if_icmp .ne o, a, b)) (hv : v = w) (hg : am_go L xs n d y (pc + 3) lw sw h = some r) : am_go L xs (n + 1) d y pc lw (.int w :: .int v :: sw) h = some r :=
  am_st1 (z := (pc + 3, lw, sw, none)) hc rfl rfl (by show some (bif am_cm2 .ne v w then a else pc + 3, lw, sw, none) = _; rw [show am_cm2 .ne v w = false from decide_eq_false (fun q => q hv)]; rfl) rfl hg
theorem ag_aa {p q j t : Nat} {x : Int32} (hc : am_code y pc = some (.aaload, a, b)) (hs : ae_shp h) (ho : ae_isA p t = true) (ht : (Nat.ble 3 t && Nat.blt t 9) = true) (hx : x.toInt = (j : Int)) (hj : j < (ae_sh p).2.2) (hcell : ae_cell L xs h p j = some (.ref q)) (hg : am_go L xs n d y (pc + 1) lw (.ref q :: sw) h = some r) : am_go L xs (n + 1) d y pc lw (.int x :: .ref p :: sw) h = some r := by
  have ht2 := ht
  rw [Bool.and_eq_true] at ht2
  obtain ⟨i, c, rfl, h2, h3, -, -, h6⟩ := ae_arr hs ho
  obtain ⟨f, rfl⟩ := h6 (Nat.le_of_ble_eq_true ht2.1)
  have hv : va_rf (f j) = .ref q := by
    have h7 : (h[i]?.bind fun e => ae_ec e j) = some (.ref q) := hcell
    rw [h3] at h7
    have h7 : (bif Nat.blt j (ae_sh (i + 1)).2.2 then some (va_rf (f j)) else none) = some (.ref q) := h7
    rw [Nat.blt_eq.mpr hj] at h7
    injection h7
  refine am_st1 (z := (pc + 1, lw, .ref q :: sw, none)) hc rfl rfl ?_ rfl hg
  show (am_aq h (i + 1)).bind _ = _
  have h8 : am_aq h (i + 1) = some (t, (ae_sh (i + 1)).2.2, f) := by
    show (match h[i]? with
      | some (.inl (c, n, .inr (.inr (.inr (.inr f))))) => am_if (Nat.ble 3 c && Nat.blt c 9) (some (c, n, f))
      | _ => none) = _
    rw [h3]
    show am_if (Nat.ble 3 t && Nat.blt t 9) _ = _
    rw [ht]
    rfl
  rw [h8]
  show am_if (am_in x (ae_sh (i + 1)).2.2) _ = _
  rw [ae_in_ok (by omega) (by omega), ag_ix hx]
  show some (pc + 1, lw, va_rf (f j) :: sw, none) = _
  rw [hv]
end BOA
/-- the reference's own count -/
theorem bo_ref {L : Nat} {xs : Nat → Int32} {h : List am_E} {d : Nat} {s : Int32} (hk : ae_hk false L xs h) {N : Nat} (hN : N ≤ 4) (cN : aq_ci L xs h 224 3 = (N : Int)) : ∀ (m i : Nat) (lw : am_L) (c x : Int32), i + m = N → am_lk lw 0 = some (.ref 219) → am_lk lw 1 = some (.int s) → am_lk lw 2 = some (.int c) → am_lk lw 3 = some (.int x) → x.toInt = (i : Int) → c.toInt = bo_cnt (fun j => aq_ci L xs h 224 (97 + j)) s.toInt i → ∃ k v, am_go L xs k d 288 4 lw [] h = some (some (.int v), h) ∧ v.toInt = bo_cnt (fun j => aq_ci L xs h 224 (97 + j)) s.toInt N := by
  have cell : ∀ j : Nat, j < 109 → ∃ v : Int32, ae_cell L xs h 224 j = some (.int v) ∧ v.toInt = aq_ci L xs h 224 j := fun j hj => by
    have hp : (ae_iv 224 j).1 = 0 := by
      have := List.all_eq_true.mp (show (List.range 109).all (fun j => Nat.beq (ae_iv 224 j).1 0) = true by decide +kernel) j (List.mem_range.mpr hj)
      exact Nat.eq_of_beq_eq_true this
    obtain ⟨v, v1, v2, -⟩ := rs_int hk (p := 224) (j := j) ⟨by decide, by decide, by show j < 1925; omega⟩ hp
    exact ⟨v, v1, v2⟩
  obtain ⟨vn, n1, n2⟩ := cell 3 (by omega)
  obtain ⟨rc, r1, r2⟩ : ∃ q : Nat, ae_cell L xs h 219 20 = some (.ref q) ∧ q = 224 := by
    obtain ⟨v, hv⟩ := ae_cell_ex (L := L) (xs := xs) hk.1 (p := 219) (j := 20) (by decide) (by decide) (by decide)
    rcases hk.2.1 219 20 v (by decide) hv with g | g
    · have g : v = .ref 224 := g
      exact ⟨224, by rw [hv, g], rfl⟩
    · exact absurd g.1 (by decide)
  subst r2
  intro m
  induction m with
  | zero =>
    intro i lw c x hi l0 l1 l2 l3 hx hc
    refine ⟨1 + 1 + 1 + 1 + 1 + 1 + 1 + 1, c, ?_, by rw [hc, show i = N by omega]⟩
    refine ag_il (m := 3) (a := 0) (b := 0) rfl l3 (ag_al (m := 0) (a := 0) (b := 0) rfl l0 (ag_get (a := 12) (b := 20) rfl hk.1 (by decide) r1 (ag_ic (m := 3) (v := 3) (a := 0) (b := 0) rfl rfl (ag_ia (p := 224) (j := 3) (a := 0) (b := 0) rfl hk.1 (by decide) rfl (by decide) n1 (ag_ge1 (o := 30) (a := 41) (b := 0) rfl (by omega) (ag_il (m := 2) (a := 0) (b := 0) rfl l2 (am_st0 (i := .ireturn) (a := 0) (b := 0) rfl rfl rfl)))))))
  | succ m ih =>
    intro i lw c x hi l0 l1 l2 l3 hx hc
    obtain ⟨va, a1, a2⟩ := cell (97 + i) (by omega)
    have x97 : ((97 : Int32) + x).toInt = ((97 + i : Nat) : Int) := ag_wa (i := 97) (j := i) rfl hx (by omega) (by omega)
    have crg := bo_rg (fun j => aq_ci L xs h 224 (97 + j)) s.toInt i
    have x1 : (x + Int32.ofInt 1).toInt = ((i + 1 : Nat) : Int) := ag_w hx (by omega)
    have fin : ∀ w : Int32, (c + w).toInt = bo_cnt (fun j => aq_ci L xs h 224 (97 + j)) s.toInt (i + 1) → ∃ k v, am_go L xs k d 288 33 lw [.int w, .int c] h = some (some (.int v), h) ∧ v.toInt = bo_cnt (fun j => aq_ci L xs h 224 (97 + j)) s.toInt N := fun w hw => by
      obtain ⟨k, v, g, e⟩ := ih (i + 1) (am_put1 (am_put1 lw 2 (.int (c + w))) 3 (.int (x + Int32.ofInt 1))) (c + w) (x + Int32.ofInt 1) (by omega) (ag_lk2 (by decide) (fun e => absurd e (by decide)) (ag_lk2 (by decide) (fun e => absurd e (by decide)) l0)) (ag_lk2 (by decide) (fun e => absurd e (by decide)) (ag_lk2 (by decide) (fun _ => rfl) l1)) (ag_lk2 (by decide) (fun _ => rfl) ag_lk1) ag_lk1 x1 hw
      exact ⟨k + 1 + 1 + 1 + 1, v, ag_add (a := 0) (b := 0) rfl (ag_ist (m := 2) (a := 0) (b := 0) rfl (by decide) (ag_inc (m := 3) (k := 1) (a := 0) (b := 0) rfl (by decide) (ag_lk2 (by decide) (fun e => absurd e (by decide)) l3) (ag_go (o := -34) (a := 4) (b := 0) rfl g))), e⟩
    have pre : ∀ (k : Nat) (q : Option Value × List am_E), am_go L xs k d 288 25 lw [.int s, .int va, .int c] h = some q → ∃ k', am_go L xs k' d 288 4 lw [] h = some q := fun k q g =>
      ⟨k + 1 + 1 + 1 + 1 + 1 + 1 + 1 + 1 + 1 + 1 + 1 + 1 + 1 + 1, ag_il (m := 3) (a := 0) (b := 0) rfl l3 (ag_al (m := 0) (a := 0) (b := 0) rfl l0 (ag_get (a := 12) (b := 20) rfl hk.1 (by decide) r1 (ag_ic (m := 3) (v := 3) (a := 0) (b := 0) rfl rfl (ag_ia (p := 224) (j := 3) (a := 0) (b := 0) rfl hk.1 (by decide) rfl (by decide) n1 (ag_ge0 (o := 30) (a := 41) (b := 0) rfl (by omega) (ag_il (m := 2) (a := 0) (b := 0) rfl l2 (ag_al (m := 0) (a := 0) (b := 0) rfl l0 (ag_get (a := 12) (b := 20) rfl hk.1 (by decide) r1 (ag_bi (m := 97) (v := 97) (a := 0) (b := 0) rfl rfl (ag_il (m := 3) (a := 0) (b := 0) rfl l3 (ag_add (a := 0) (b := 0) rfl (ag_ia (p := 224) (j := 97 + i) (a := 0) (b := 0) rfl hk.1 (by decide) x97 (by show 97 + i < 1925; omega) a1 (ag_il (m := 1) (a := 0) (b := 0) rfl l1 g)))))))))))))⟩
    by_cases hv : va = s
    · obtain ⟨k, v, g, e⟩ := fin 1 (by
        have : (c + 1).toInt = c.toInt + 1 := by
          have := ag_w (x := c) (i := c.toInt.toNat) (by omega) (by omega)
          have e1 : (c + Int32.ofInt 1).toInt = (c + 1).toInt := rfl
          omega
        rw [this, hc]
        show _ = bo_cnt _ _ i + (if aq_ci L xs h 224 (97 + i) = s.toInt then 1 else 0)
        rw [if_pos (by rw [← a2, hv])])
      obtain ⟨k', g'⟩ := pre (k + 1 + 1 + 1) _ (ag_in0 (o := 7) (a := 32) (b := 0) rfl hv (ag_ic (m := 1) (v := 1) (a := 0) (b := 0) rfl rfl (ag_go (o := 4) (a := 33) (b := 0) rfl g)))
      exact ⟨k', v, g', e⟩
    · obtain ⟨k, v, g, e⟩ := fin 0 (by
        rw [show c + 0 = c by rw [Int32.add_zero], hc]
        show _ = bo_cnt _ _ i + (if aq_ci L xs h 224 (97 + i) = s.toInt then 1 else 0)
        rw [if_neg (fun e => hv (Int32.toInt_inj.mp (by rw [a2]; exact e)))]
        omega)
      obtain ⟨k', g'⟩ := pre (k + 1 + 1) _ (ag_in1 (o := 7) (a := 32) (b := 0) rfl hv (ag_ic (m := 0) (v := 0) (a := 0) (b := 0) rfl rfl g))
      exact ⟨k', v, g', e⟩
/-- the class's count, within passGap -/
theorem bo_cls {L : Nat} {xs : Nat → Int32} {h : List am_E} {d : Nat} {s : Int32} (hk : ae_hk false L xs h) {N : Nat} (hN : N ≤ 4) (cN : aq_ci L xs h 8 8 = (N : Int)) : ∀ (m i : Nat) (lw : am_L) (c x : Int32), i + m = N → am_lk lw 0 = some (.ref 8) → am_lk lw 1 = some (.int s) → am_lk lw 3 = some (.int c) → am_lk lw 4 = some (.int x) → x.toInt = (i : Int) → c.toInt = bo_cnt (fun j => aq_ci L xs h (18 + 5 * j) 1) s.toInt i →
    ∃ lw' v, (∀ j u, j ≠ 3 → j ≠ 4 → (j = 2 → u.category = 1) → am_lk lw j = some u → am_lk lw' j = some u) ∧ am_lk lw' 3 = some (.int v) ∧ v.toInt = bo_cnt (fun j => aq_ci L xs h (18 + 5 * j) 1) s.toInt N ∧ ∀ k q, am_go L xs k d 108 42 lw' [] h = some q → ∃ k', am_go L xs k' d 108 10 lw [] h = some q := by
  have arr : ∀ i, i < 4 → ae_cell L xs h 12 i = some (.ref (18 + 5 * i)) := fun i hi => by
    obtain ⟨v, hv⟩ := ae_cell_ex (L := L) (xs := xs) hk.1 (p := 12) (j := i) (by decide) (by decide) (by show i < 4; exact hi)
    rcases hk.2.1 12 i v (by decide) hv with g | g
    · match i, hi, hv, g with
      | 0, _, hv, g => have g : v = .ref 18 := g; rw [hv, g]
      | 1, _, hv, g => have g : v = .ref 23 := g; rw [hv, g]
      | 2, _, hv, g => have g : v = .ref 28 := g; rw [hv, g]
      | 3, _, hv, g => have g : v = .ref 33 := g; rw [hv, g]
      | i + 4, hi, _, _ => exact absurd hi (by omega)
    · exact absurd g.1 (by decide)
  have at1 : ∀ i, i < 4 → ∃ v : Int32, ae_cell L xs h (18 + 5 * i) 1 = some (.int v) ∧ v.toInt = aq_ci L xs h (18 + 5 * i) 1 := fun i hi => by
    have hp := (by decide +kernel : ∀ i < 4, (ae_iv (18 + 5 * i) 1).1 = 0 ∧ 0 < 18 + 5 * i ∧ 18 + 5 * i ≤ ae_np ∧ 1 < (ae_sh (18 + 5 * i)).2.2) i hi
    obtain ⟨v, v1, v2, -⟩ := rs_int hk (p := 18 + 5 * i) (j := 1) hp.2 hp.1
    exact ⟨v, v1, v2⟩
  obtain ⟨vn, n1, n2, -⟩ := rs_int hk (p := 8) (j := 8) ⟨by decide, by decide, by decide⟩ rfl
  have rb : ae_cell L xs h 8 3 = some (.ref 12) := by
    obtain ⟨v, hv⟩ := ae_cell_ex (L := L) (xs := xs) hk.1 (p := 8) (j := 3) (by decide) (by decide) (by decide)
    rcases hk.2.1 8 3 v (by decide) hv with g | g
    · have g : v = .ref 12 := g
      rw [hv, g]
    · exact absurd g.1 (by decide)
  intro m
  induction m with
  | zero =>
    intro i lw c x hi l0 l1 l3 l4 hx hc
    refine ⟨lw, c, fun j u _ _ _ e => e, l3, by rw [hc, show i = N by omega], fun k q g => ⟨k + 1 + 1 + 1 + 1, ?_⟩⟩
    exact ag_il2 (m := 4) (a := 0) (b := 0) rfl l4 (ag_al (m := 0) (a := 0) (b := 0) rfl l0 (ag_get (a := 9) (b := 8) rfl hk.1 (by decide) n1 (ag_ge1 (o := 26) (a := 42) (b := 0) rfl (by omega) g)))
  | succ m ih =>
    intro i lw c x hi l0 l1 l3 l4 hx hc
    have i4 : i < 4 := by omega
    obtain ⟨va, a1, a2⟩ := at1 i i4
    have crg := bo_rg (fun j => aq_ci L xs h (18 + 5 * j) 1) s.toInt i
    have x1 : (x + Int32.ofInt 1).toInt = ((i + 1 : Nat) : Int) := ag_w hx (by omega)
    have hO := (by decide : ∀ i < 4, ae_isO (18 + 5 * i) 0 1 = true) i i4
    have pre : ∀ (k : Nat) (q : Option Value × List am_E), am_go L xs k d 108 30 lw [.int s, .int va] h = some q → ∃ k', am_go L xs k' d 108 10 lw [] h = some q := fun k q g =>
      ⟨k + 1 + 1 + 1 + 1 + 1 + 1 + 1 + 1 + 1 + 1, ag_il2 (m := 4) (a := 0) (b := 0) rfl l4 (ag_al (m := 0) (a := 0) (b := 0) rfl l0 (ag_get (a := 9) (b := 8) rfl hk.1 (by decide) n1 (ag_ge0 (o := 26) (a := 42) (b := 0) rfl (by omega) (ag_al (m := 0) (a := 0) (b := 0) rfl l0 (ag_get (a := 9) (b := 3) rfl hk.1 (by decide) rb (ag_il2 (m := 4) (a := 0) (b := 0) rfl l4 (ag_aa (p := 12) (t := 8) (j := i) (a := 0) (b := 0) rfl hk.1 (by decide) rfl hx (by show i < 4; exact i4) (arr i i4) (ag_get (a := 0) (b := 1) rfl hk.1 hO a1 (ag_il (m := 1) (a := 0) (b := 0) rfl l1 g)))))))))⟩
    -- the end of a turn
    have post : ∀ (lw2 : am_L) (c2 : Int32), am_lk lw2 0 = some (.ref 8) → am_lk lw2 1 = some (.int s) → am_lk lw2 3 = some (.int c2) → am_lk lw2 4 = some (.int x) → c2.toInt = bo_cnt (fun j => aq_ci L xs h (18 + 5 * j) 1) s.toInt (i + 1) → ∃ lw' v, (∀ j u, j ≠ 3 → j ≠ 4 → (j = 2 → u.category = 1) → am_lk lw2 j = some u → am_lk lw' j = some u) ∧ am_lk lw' 3 = some (.int v) ∧ v.toInt = bo_cnt (fun j => aq_ci L xs h (18 + 5 * j) 1) s.toInt N ∧ ∀ k q, am_go L xs k d 108 42 lw' [] h = some q → ∃ k', am_go L xs k' d 108 36 lw2 [] h = some q := by
      intro lw2 c2 m0 m1 m3 m4 hc2
      obtain ⟨lw', v, q1, q2, q3, q4⟩ := ih (i + 1) (am_put1 lw2 4 (.int (x + Int32.ofInt 1))) c2 (x + Int32.ofInt 1) (by omega) (ag_lk2 (by decide) (fun e => absurd e (by decide)) m0) (ag_lk2 (by decide) (fun e => absurd e (by decide)) m1) (ag_lk2 (by decide) (fun _ => rfl) m3) ag_lk1 x1 hc2
      refine ⟨lw', v, fun j u h3 h4 h2 e => q1 j u h3 h4 h2 (ag_lk2 h4 (fun e => absurd e (by omega)) e), q2, q3, fun k q g => ?_⟩
      obtain ⟨k', g'⟩ := q4 k q g
      exact ⟨k' + 1 + 1, ag_inc (m := 4) (k := 1) (a := 0) (b := 0) rfl (by decide) m4 (ag_go (o := -29) (a := 10) (b := 0) rfl g')⟩
    by_cases hv : va = s
    · have c1 : (c + Int32.ofInt 1).toInt = bo_cnt (fun j => aq_ci L xs h (18 + 5 * j) 1) s.toInt (i + 1) := by
        have := ag_w (x := c) (i := c.toInt.toNat) (by omega) (by omega)
        show _ = bo_cnt _ _ i + (if aq_ci L xs h (18 + 5 * i) 1 = s.toInt then 1 else 0)
        rw [if_pos (by rw [← a2, hv])]
        omega
      obtain ⟨lw', v, q1, q2, q3, q4⟩ := post (am_put1 lw 3 (.int (c + Int32.ofInt 1))) (c + Int32.ofInt 1) (ag_lk2 (by decide) (fun e => absurd e (by decide)) l0) (ag_lk2 (by decide) (fun e => absurd e (by decide)) l1) ag_lk1 (ag_lk2 (by decide) (fun e => absurd e (by decide)) l4) c1
      refine ⟨lw', v, fun j u h3 h4 h2 e => q1 j u h3 h4 h2 (ag_lk2 h3 (fun e2 => h2 (by omega)) e), q2, q3, fun k q g => ?_⟩
      obtain ⟨k', g'⟩ := q4 k q g
      exact pre _ _ (ag_in0 (o := 6) (a := 36) (b := 0) rfl hv (ag_inc (m := 3) (k := 1) (a := 0) (b := 0) rfl (by decide) l3 g'))
    · obtain ⟨lw', v, q1, q2, q3, q4⟩ := post lw c l0 l1 l3 l4 (by
        show _ = bo_cnt _ _ i + (if aq_ci L xs h (18 + 5 * i) 1 = s.toInt then 1 else 0)
        rw [if_neg (fun e => hv (Int32.toInt_inj.mp (by rw [a2]; exact e)))]
        omega)
      refine ⟨lw', v, q1, q2, q3, fun k q g => ?_⟩
      obtain ⟨k', g'⟩ := q4 k q g
      exact pre _ _ (ag_in1 (o := 6) (a := 36) (b := 0) rfl hv g')

/-! Tape.begin: all tokens are cut -/
section ACB
variable {L : Nat} {xs : Nat → Int32} {r0 : Nat → Int}
theorem ac_mid1 (hf : ae_fok = true) {W : ap_W} {G : List am_E → Prop} {Q : Option Value → List am_E → Prop} {t : ap_Tm} {k : ae_K} {M : List ae_M} {dd y pc : Nat} {lv : ae_L} {st : List ae_V} (ht : t.st = (k, [], M, ([(dd, y, pc, lv, st)], none), ([], none))) (hM : (M.all fun m => !m.2.2.2 && am_sd ap_b false m.1) = true)
    (hQ : ∀ ρ d lw sw h, (∀ s, s < W.r → ρ s = r0 s) → ae_okK ρ k → (∀ m ∈ M, ae_eo k.1 ρ L xs h m) → dd ≤ d → ae_lr k.1 ρ lv lw → ae_sr k.1 ρ st sw → ae_hk true L xs h → ∃ n v e, am_go L xs n d y pc lw sw h = some (v, e) ∧ ap_sm L xs false h e ∧ ae_fr W.p.mo L xs h e ∧ ae_hk true L xs e ∧ Q v e) : ap_ok W G L xs (fun v1 _ e1 _ => ae_hk true L xs e1 ∧ Q v1 e1) r0 t := by
  intro ρ g1 g2 h1 h2 S _ a
  rw [ht] at S
  obtain ⟨S1, S2, S3, S4, S5, S6, S7, S8, S9⟩ := S
  obtain ⟨f1, v1⟩ := g1
  obtain ⟨f2, v2⟩ := g2
  have hM2 : ∀ m ∈ M, m.2.2.2 = false ∧ am_sd ap_b false m.1 = true := fun m hm => by
    have := List.all_eq_true.mp hM m hm
    rw [Bool.and_eq_true] at this
    exact ⟨by simpa using this.1, this.2⟩
  cases f2 with
  | cons _ _ => exact absurd S6.1 id
  | nil =>
    match f1, S5.1 with
    | [], q => exact absurd q id
    | _ :: _ :: _, q => exact absurd q.2 id
    | [(d, y', pc', lw, sw)], ⟨⟨q1, q2, q3, q4, q5⟩, _⟩ =>
      have q2 : y = y' := q2
      have q3 : pc = pc' := q3
      subst q2; subst q3
      have hk1 := aq_own_hk false (aq_hk_sat hf S4 (fun m hm => (hM2 m hm).1)) S7 S8.1.1
      obtain ⟨n, v, e, w1, w2, w3, w4, w5⟩ := hQ ρ d lw sw h1 a S1 (fun m hm => by
        obtain ⟨j, v, e1, e2, e3⟩ := S4.2.1 m hm
        exact ⟨j, v, e1, by rw [ap_c (s := false) S7.1.1 S8.1.1 (hM2 m hm).2] at e2; exact e2, e3⟩) q1 q4 q5 hk1
      exact ⟨v, e, v2, h2, ⟨n, w1⟩, rfl, w2, ap_sm_rf, ap_fr S7.1.1 w4.1.1 S8.1.1 w3, w4, w5⟩
end ACB
section ACS
variable {L : Nat} {xs : Nat → Int32} {n d y pc a b : Nat} {lw : am_L} {sw : List Value} {h : List am_E} {r : Option Value × List am_E}
theorem ag_cv {w n1 n2 p : Nat} {v : Option Value} {h' : List am_E} (hc : am_code y pc = some (.invokevirtual w, a, 0)) (hA : Nat.ble 1000 a = false) (hs : ae_shp h) (ho : ae_isO p (am_inf a).1 0 = true) (hcat : Nat.ble (am_cats sw) 8 = true) (hnl : Nat.ble 1 (am_inf a).2.2.1 = true) (g1 : am_go L xs n1 d a 0 (lv_args 0 [.ref p]) [] h = some (v, h')) (g2 : am_go L xs n2 (d + 1) y (pc + 3) lw (v.toList ++ sw) h' = some r) : am_go L xs (n1 + n2 + 1) (d + 1) y pc lw (.ref p :: sw) h = some r := by
  obtain ⟨i, fs, rfl, h2, h3, h4, h5, h6⟩ := ae_obj hs ho
  refine am_st3 hc rfl rfl hA ?_ g1 g2
  have e : am_rcv (.invokevirtual w) a [Value.ref (i + 1)] h (am_inf a).1 = true := by
    show (am_ob h (i + 1) (am_inf a).1).isSome = true
    rw [h6]; rfl
  show (Nat.ble 1 (sw.length + 1) && Nat.ble (am_cats sw) 8 && am_rcv (.invokevirtual w) a [Value.ref (i + 1)] h (am_inf a).1 && Nat.ble (am_cats [Value.ref (i + 1)]) (am_inf a).2.2.1) = true
  rw [hcat, e, Nat.ble_eq_true_of_le (Nat.succ_le_succ (Nat.zero_le _))]
  show (true && Nat.ble 1 (am_inf a).2.2.1) = true
  rw [hnl]; rfl
theorem ag_ist {m : Fin 4} {v : Int32} (hc : am_code y pc = some (.istore_n m, a, b)) (hL : Nat.blt m.val (am_inf y).2.2.1 = true) (hg : am_go L xs n d y (pc + 1) (am_put1 lw m.val (.int v)) sw h = some r) : am_go L xs (n + 1) d y pc lw (.int v :: sw) h = some r :=
  am_st1 (z := (pc + 1, am_put1 lw m.val (.int v), sw, none)) hc rfl rfl (by show am_if (Nat.blt m.val (am_inf y).2.2.1) _ = _; rw [hL]; rfl) rfl hg
theorem ag_gt1 {o : Int} {v w : Int32} (hc : am_code y pc = some (.if_icmp .gt o, a, b)) (hv : w.toInt < v.toInt) (hg : am_go L xs n d y a lw sw h = some r) : am_go L xs (n + 1) d y pc lw (.int w :: .int v :: sw) h = some r :=
  am_st1 (z := (a, lw, sw, none)) hc rfl rfl (by show some (bif am_cm2 .gt v w then a else pc + 3, lw, sw, none) = _; rw [show am_cm2 .gt v w = true from decide_eq_true (Int32.lt_iff_toInt_lt.mpr hv)]; rfl) rfl hg
theorem ag_gt0 {o : Int} {v w : Int32} (hc : am_code y pc = some (.if_icmp .gt o, a, b)) (hv : v.toInt ≤ w.toInt) (hg : am_go L xs n d y (pc + 3) lw sw h = some r) : am_go L xs (n + 1) d y pc lw (.int w :: .int v :: sw) h = some r :=
  am_st1 (z := (pc + 3, lw, sw, none)) hc rfl rfl (by show some (bif am_cm2 .gt v w then a else pc + 3, lw, sw, none) = _; rw [show am_cm2 .gt v w = false from decide_eq_false (fun q => by have := Int32.lt_iff_toInt_lt.mp q; omega)]; rfl) rfl hg
theorem ag_rt (hc : am_code y pc = some (.return_, a, b)) (hk : Nat.beq (am_inf y).2.2.2 0 = true) : am_go L xs 1 d y pc lw [] h = some (none, h) := am_st0 hc rfl (by show am_if (Nat.beq (am_inf y).2.2.2 0) _ = _; rw [hk]; rfl)
end ACS
/-- so far: each token's kind, start and value are what next() would see at its place -/
noncomputable def ac_lxp (L : Nat) (xs : Nat → Int32) (b : Nat → Option Value) (n : Int) (e : List am_E) (t : Int) (P : Nat → Int) : Prop := P 0 = 0 ∧ ∀ i : Nat, (i : Int) < t → aq_nx L xs b n (P i) (aq_ci L xs e 5 i) (aq_ci L xs e 6 i) (aq_cj L xs e 7 i) (P (i + 1)) ∧ (0 ≤ aq_ci L xs e 5 i ∧ aq_ci L xs e 5 i ≤ 6) ∧ ac_vok (aq_ci L xs e 5 i) (aq_cj L xs e 7 i)
/-- all tokens are cut; the last one is the end, or none at all -/
noncomputable def ac_lex (L : Nat) (xs : Nat → Int32) (b : Nat → Option Value) (n : Int) (e : List am_E) (t : Int) (P : Nat → Int) : Prop := aq_ci L xs e 3 4 = t ∧ aq_ci L xs e 3 6 = n ∧ 1 ≤ t ∧ (t ≤ 901 ∧ t ≤ n + 1) ∧ ac_lxp L xs b n e t P ∧ ∀ i : Nat, (i : Int) < t → ((aq_ci L xs e 5 i = 0 ∨ aq_ci L xs e 5 i = 6) ↔ (i : Int) = t - 1)
noncomputable def ac_bmo : ae_Mo := [(3, 4, 16), (5, 0, 900), (6, 0, 900), (7, 0, 900)]
section ACT
variable {L : Nat} {xs : Nat → Int32} {b : Nat → Option Value} {n : Int}
theorem ac_kd {p kd st vl p' : Int} (q : aq_nx L xs b n p kd st vl p') (g : aq_gh L xs b n p) : (0 ≤ kd ∧ kd ≤ 6) ∧ ac_vok kd vl := by
  obtain ⟨hB, g1, g2, g3, g4⟩ := g
  obtain ⟨m, e2, -, -, -, -, -, -, w⟩ := q hB 20 [(0, .ref 219)] g1 g2 g3 g4 (Nat.le_refl _) rfl
  unfold ac_vok
  rcases w with ⟨rfl, -⟩ | ⟨rfl, -, -, h1, h2, -⟩ | ⟨rfl, -, -, -, -, h1, h2, -⟩ | ⟨rfl, -⟩ | ⟨rfl, -, -, h1, h2⟩ | ⟨rfl, -, -, h1, h2⟩ | ⟨rfl, -⟩
  · exact ⟨by omega, by omega, by omega, by omega, by omega⟩
  · exact ⟨by omega, fun _ => ⟨h1, by omega⟩, by omega, by omega, by omega⟩
  · exact ⟨by omega, by omega, by omega, by omega, fun _ => ⟨h1, h2⟩⟩
  · exact ⟨by omega, by omega, by omega, by omega, by omega⟩
  · exact ⟨by omega, by omega, fun _ => ⟨h1, h2⟩, by omega, by omega⟩
  · exact ⟨by omega, by omega, by omega, fun _ => ⟨h1, h2⟩, by omega⟩
  · exact ⟨by omega, by omega, by omega, by omega, by omega⟩
/-- behind the loop: the first token is looked at -/
theorem ac_exit (hr : ae_rok = true) (hf : ae_fok = true) (hL : L ≤ 3072) {hA : List am_E} (kA : ae_hk true L xs hA) {t : Int} {P : Nat → Int} (lx : ac_lex L xs b n hA t P) (c5 : aq_ci L xs hA 3 5 = 0) {d : Nat} {lw : am_L} (hd : 22 ≤ d) (l0 : am_lk lw 0 = some (.ref 3)) :
    ∃ k e, am_go L xs k d 49 62 lw [] hA = some (none, e) ∧ ap_sm L xs false hA e ∧ ae_fr ac_bmo L xs hA e ∧ ae_hk true L xs e ∧ ac_lex L xs b n e t P ∧ aq_ci L xs e 3 5 = 1 ∧ ac_cur L xs e (aq_ci L xs e 5 0) (aq_ci L xs e 6 0) (aq_cj L xs e 7 0) := by
  obtain ⟨x1, x2, x3, x4, ⟨x5, x6⟩, x7⟩ := lx
  obtain ⟨-, y2, y3⟩ := x6 0 (by omega)
  obtain ⟨d, rfl⟩ : ∃ d', d = d' + 1 := ⟨d - 1, by omega⟩
  obtain ⟨m, e, g1, g2, g3, g4, g5, g6⟩ := ac_adv hr hf hL kA (i := 0) (t := t) (by omega) (by omega) y2 y3 c5 x1 rfl rfl rfl (d := d) (lw := lv_args 0 [.ref 3]) (by omega) rfl
  have fr : ae_fr ac_bmo L xs hA e := fun p j hp => g3 p j (ae_sub2_ok (b := ac_bmo) (by decide) hp)
  have e5 : ∀ p j, ae_inm ac_amo p j = false → aq_ci L xs e p j = aq_ci L xs hA p j := fun p j hp => by unfold aq_ci; rw [g3 p j hp]
  have e7 : ∀ p j, ae_inm ac_amo p j = false → aq_cj L xs e p j = aq_cj L xs hA p j := fun p j hp => by unfold aq_cj; rw [g3 p j hp]
  have q5 : ∀ j, aq_ci L xs e 5 j = aq_ci L xs hA 5 j := fun j => e5 5 j rfl
  have q6 : ∀ j, aq_ci L xs e 6 j = aq_ci L xs hA 6 j := fun j => e5 6 j rfl
  have q7 : ∀ j, aq_cj L xs e 7 j = aq_cj L xs hA 7 j := fun j => e7 7 j rfl
  refine ⟨m + 1 + 1 + 1, e, ?_, g2, fr, g4, ⟨by rw [e5 3 4 rfl]; exact x1, by rw [e5 3 6 rfl]; exact x2, x3, x4, ⟨x5, fun i hi => ?_⟩, fun i hi => ?_⟩, g5, ?_⟩
  · refine ag_al (m := 0) (p := 3) (a := 0) (b := 0) rfl l0 ?_
    exact ag_cv (w := 58) (a := 58) rfl rfl kA.1 (by decide) (by decide) (by decide) g1 (ag_rt (a := 0) (b := 0) rfl (by decide))
  · rw [q5, q6, q7]; exact x6 i hi
  · rw [q5]; exact x7 i hi
  · rw [q5, q6, q7]; exact g6
theorem ac_loop (hr : ae_rok = true) (hf : ae_fok = true) (hL : L ≤ 3072) (hn : n ≤ 900) : ∀ (N : Nat) (t p : Int) (P : Nat → Int) (hA : List am_E) (d : Nat) (lw : am_L) (x2 x3 : Int32), (n - p).toNat < N → ae_hk true L xs hA → (∀ j, j < 900 → ae_cell L xs hA 4 j = b j) → aq_ci L xs hA 3 4 = t → aq_ci L xs hA 3 6 = n → aq_ci L xs hA 3 7 = p → aq_ci L xs hA 3 5 = 0 → 0 ≤ t → t ≤ p → p ≤ n → P t.toNat = p → ac_lxp L xs b n hA t P → (∀ i : Nat, (i : Int) < t → aq_ci L xs hA 5 i ≠ 0 ∧ aq_ci L xs hA 5 i ≠ 6) → aq_gh L xs b n p → 22 ≤ d → am_lk lw 0 = some (.ref 3) → am_lk lw 2 = some (.int x2) → x2.toInt ≠ 0 → am_lk lw 3 = some (.int x3) → x3.toInt = t →
    ∃ k e T P', am_go L xs k d 49 40 lw [] hA = some (none, e) ∧ ap_sm L xs false hA e ∧ ae_fr ac_bmo L xs hA e ∧ ae_hk true L xs e ∧ ac_lex L xs b n e T P' ∧ aq_ci L xs e 3 5 = 1 ∧ ac_cur L xs e (aq_ci L xs e 5 0) (aq_ci L xs e 6 0) (aq_cj L xs e 7 0) := by
  intro N
  induction N with
  | zero => intro t p P hA d lw x2 x3 h; omega
  | succ N ih =>
    intro t p P hA d lw x2 x3 hN kA hb c4 c6 c7 c5 t0 tp pn hP lx nf gh hd l0 l2 z2 l3 z3
    obtain ⟨d, rfl⟩ : ∃ d', d = d' + 1 := ⟨d - 1, by omega⟩
    obtain ⟨m, r, e1, w1, w2, w3, w4, w5, w6, w7, w8, w9, w10, w11, w12, w13⟩ := aq_cutA hr hf hL kA hb c4 c6 c7 ⟨t0, by omega⟩ ⟨by omega, pn, hn⟩ gh (d := d) (lw := lv_args 0 [.ref 3]) (by omega) rfl
    have fr1 : ae_fr ac_bmo L xs hA e1 := fun p j hp => w4 p j (ae_sub2_ok (b := ac_bmo) (by decide) hp)
    have tn : ((t.toNat : Nat) : Int) = t := by omega
    have kd := ac_kd w11 gh
    have hb1 : ∀ j, j < 900 → ae_cell L xs e1 4 j = b j := fun j hj => (w4 4 j rfl).trans (hb j hj)
    have d6 : aq_ci L xs e1 3 6 = n := by unfold aq_ci at c6 ⊢; rw [w4 3 6 rfl]; exact c6
    have d5 : aq_ci L xs e1 3 5 = 0 := by unfold aq_ci at c5 ⊢; rw [w4 3 5 rfl]; exact c5
    -- the places, with one more
    have hP1 : (fun i : Nat => if i ≤ t.toNat then P i else aq_ci L xs e1 3 7) (t + 1).toNat = aq_ci L xs e1 3 7 := by
      show (if (t + 1).toNat ≤ t.toNat then _ else _) = _
      rw [if_neg (by omega)]
    have lx1 : ac_lxp L xs b n e1 (t + 1) (fun i : Nat => if i ≤ t.toNat then P i else aq_ci L xs e1 3 7) := by
      refine ⟨by show (if 0 ≤ t.toNat then P 0 else _) = 0; rw [if_pos (Nat.zero_le _)]; exact lx.1, fun i hi => ?_⟩
      show aq_nx L xs b n (if i ≤ t.toNat then P i else aq_ci L xs e1 3 7) (aq_ci L xs e1 5 i) (aq_ci L xs e1 6 i) (aq_cj L xs e1 7 i) (if i + 1 ≤ t.toNat then P (i + 1) else aq_ci L xs e1 3 7) ∧ _
      by_cases hit : (i : Int) < t
      · obtain ⟨u1, u2, u3⟩ := w12 i hit
        rw [if_pos (by omega), if_pos (by omega), u1, u2, u3]
        exact lx.2 i hit
      · have hi2 : i = t.toNat := by omega
        subst hi2
        rw [if_pos (Nat.le_refl _), if_neg (by omega), hP]
        exact ⟨w11, kd⟩
    have y3 : (x3 + Int32.ofInt 1).toInt = t + 1 := by
      have := ag_w (x := x3) (i := t.toNat) (by omega) (by omega)
      omega
    have lwn : ∀ j v, j ≠ 2 → j ≠ 3 → v.category = 1 → am_lk lw j = some v → am_lk (am_put1 (am_put1 lw 2 (.int r)) 3 (.int (x3 + Int32.ofInt 1))) j = some v := fun j v h2 h3 hc hl => ag_lk2 h3 (fun _ => hc) (ag_lk2 h2 (fun _ => hc) hl)
    have m0 := lwn 0 _ (by decide) (by decide) rfl l0
    have m2 : am_lk (am_put1 (am_put1 lw 2 (.int r)) 3 (.int (x3 + Int32.ofInt 1))) 2 = some (.int r) := ag_lk2 (by decide) (fun _ => rfl) ag_lk1
    have m3 : am_lk (am_put1 (am_put1 lw 2 (.int r)) 3 (.int (x3 + Int32.ofInt 1))) 3 = some (.int (x3 + Int32.ofInt 1)) := ag_lk1
    -- from the loop's head through the call to the head
    have head : ∀ k q, am_go L xs k (d + 1) 49 40 (am_put1 (am_put1 lw 2 (.int r)) 3 (.int (x3 + Int32.ofInt 1))) [] e1 = some q → ∃ k', am_go L xs k' (d + 1) 49 40 lw [] hA = some q := by
      intro k q hg
      refine ⟨m + (k + 1 + 1 + 1) + 1 + 1 + 1 + 1 + 1 + 1 + 1, ?_⟩
      refine ag_il (m := 3) (a := 0) (b := 0) rfl l3 ?_
      refine ag_si (m := 900) (a := 0) (b := 0) (v := 900) rfl (by decide) ?_
      refine ag_gt0 (o := 18) (a := 62) (b := 0) rfl (by rw [z3, show (900 : Int32).toInt = 900 from rfl]; omega) ?_
      refine ag_il (m := 2) (a := 0) (b := 0) rfl l2 ?_
      refine ag_eq0 (o := 14) (a := 62) (b := 0) rfl (fun e => z2 (by rw [e]; rfl)) ?_
      refine ag_al (m := 0) (p := 3) (a := 0) (b := 0) rfl l0 ?_
      refine ag_cv (w := 54) (a := 54) rfl rfl kA.1 (by decide) (by decide) (by decide) w1 ?_
      refine ag_ist (m := 2) (a := 0) (b := 0) rfl (by decide) ?_
      refine ag_inc (m := 3) (k := 1) (a := 0) (b := 0) rfl (by decide) (ag_lk2 (by decide) (fun _ => rfl) l3) ?_
      exact ag_go (o := -19) (a := 40) (b := 0) rfl hg
    rcases w5 with hr0 | hr1
    · -- the last one
      have kf := w6.mp hr0
      have lexT : ac_lex L xs b n e1 (t + 1) (fun i : Nat => if i ≤ t.toNat then P i else aq_ci L xs e1 3 7) := by
        refine ⟨w7, d6, by omega, ⟨by omega, by omega⟩, lx1, fun i hi => ?_⟩
        by_cases hit : (i : Int) < t
        · rw [(w12 i hit).1]
          have := nf i hit
          constructor
          · intro h; rcases h with h | h
            · exact absurd h this.1
            · exact absurd h this.2
          · intro h; omega
        · have hi2 : i = t.toNat := by omega
          subst hi2
          exact ⟨fun _ => by omega, fun _ => kf⟩
      obtain ⟨k, e, g1, g2, g3, g4, g5, g6, g7⟩ := ac_exit hr hf hL w2 lexT d5 (d := d + 1) hd m0
      have to62 : ∃ k', am_go L xs k' (d + 1) 49 40 (am_put1 (am_put1 lw 2 (.int r)) 3 (.int (x3 + Int32.ofInt 1))) [] e1 = some (none, e) := by
        by_cases h9 : t + 1 ≤ 900
        · refine ⟨k + 1 + 1 + 1 + 1 + 1, ?_⟩
          refine ag_il (m := 3) (a := 0) (b := 0) rfl m3 ?_
          refine ag_si (m := 900) (a := 0) (b := 0) (v := 900) rfl (by decide) ?_
          refine ag_gt0 (o := 18) (a := 62) (b := 0) rfl (by rw [y3, show (900 : Int32).toInt = 900 from rfl]; omega) ?_
          refine ag_il (m := 2) (a := 0) (b := 0) rfl m2 ?_
          exact ag_eq1 (o := 14) (a := 62) (b := 0) rfl (Int32.toInt_inj.mp (by rw [hr0]; rfl)) g1
        · refine ⟨k + 1 + 1 + 1, ?_⟩
          refine ag_il (m := 3) (a := 0) (b := 0) rfl m3 ?_
          refine ag_si (m := 900) (a := 0) (b := 0) (v := 900) rfl (by decide) ?_
          exact ag_gt1 (o := 18) (a := 62) (b := 0) rfl (by rw [y3, show (900 : Int32).toInt = 900 from rfl]; omega) g1
      obtain ⟨k', g1'⟩ := to62
      obtain ⟨k2, g1''⟩ := head k' _ g1'
      exact ⟨k2, e, _, _, g1'', ap_sm_tr w3 g2, ae_fr_tr fr1 g3, g4, g5, g6, g7⟩
    · -- and one more
      have kn : ¬ (aq_ci L xs e1 5 t.toNat = 0 ∨ aq_ci L xs e1 5 t.toNat = 6) := fun h => by have := w6.mpr h; omega
      have p1 := w10 (fun h => kn (Or.inl h))
      have nf' : ∀ i : Nat, (i : Int) < t + 1 → aq_ci L xs e1 5 i ≠ 0 ∧ aq_ci L xs e1 5 i ≠ 6 := by
        intro i hi
        by_cases hit : (i : Int) < t
        · rw [(w12 i hit).1]
          exact nf i hit
        · have hi2 : i = t.toNat := by omega
          subst hi2
          exact ⟨fun h => kn (Or.inl h), fun h => kn (Or.inr h)⟩
      obtain ⟨k, e, T, P', g1, g2, g3, g4, g5, g6, g7⟩ := ih (t + 1) (aq_ci L xs e1 3 7) _ e1 (d + 1) _ r (x3 + Int32.ofInt 1) (by omega) w2 hb1 w7 d6 rfl d5 (by omega) (by omega) w9 hP1 lx1 nf' w13 hd m0 m2 (by omega) m3 y3
      obtain ⟨k2, g1'⟩ := head k _ g1
      exact ⟨k2, e, T, P', g1', ap_sm_tr w3 g2, ae_fr_tr fr1 g3, g4, g5, g6, g7⟩
end ACT

/-! Which kind of token is looked at: case by case -/
noncomputable def ac_vb (q : Nat) : Int × Int := bif Nat.beq q 1 then (0, 31) else bif Nat.beq q 2 then (0, 9999) else bif Nat.beq q 3 then (59, 62) else bif Nat.beq q 4 then (1, 1099511627776) else (0, 0)
noncomputable def ac_lb (q : Nat) : Int × Int := bif Nat.beq q 1 || Nat.beq q 4 then (-2147483648, 8) else bif Nat.beq q 5 then (9, 2147483647) else (-2147483648, 2147483647)
noncomputable def ac_tk (q : Nat) : Int := bif Nat.beq q 0 then 0 else bif Nat.beq q 2 then 2 else bif Nat.beq q 3 then 3 else bif Nat.beq q 6 then 4 else 1
noncomputable def ac_ents (q : Nat) (v s l e : ae_X) : List ae_M :=
  [(3, ae_num 11, (0, 0, ae_num (q : Int)), false), (3, ae_num 12, (0, 0, bif Nat.beq q 1 then v else ae_num (-1)), false), (3, ae_num 13, (0, 0, bif Nat.beq q 2 then v else ae_num (-1)), false), (3, ae_num 14, (0, 0, bif Nat.beq q 3 then v else ae_num 0), false), (3, ae_num 15, (1, 0, bif Nat.beq q 4 then e else ae_num 0), false), (3, ae_num 16, (0, 0, s), false), (219, ae_num 14, (0, 0, ae_num (ac_tk q)), false), (219, ae_num 15, (0, 0, s), false), (219, ae_num 18, (0, 0, l), false)]
  ++ ((bif Nat.beq q 2 || Nat.beq q 3 then [(219, ae_num 17, (0, 0, v), false)] else []) ++ (bif Nat.beq q 4 then [(219, ae_num 19, (1, 0, e), false)] else bif Nat.beq q 5 then [(219, ae_num 19, (1, 0, ae_num (-1)), false)] else []))
noncomputable def ac_en (z : ab_St) (q : Nat) (k : ae_K) : ae_X := match ae_fd z.m 3 (ae_num 15) with
  | some m => bif Nat.beq m.2.2.1.1 1 && Nat.beq q 4 then m.2.2.1.2.2 else ae_sym k.1
  | none => ae_sym k.1
noncomputable def ac_spl (z : ab_St) (q : Nat) (k : ae_K) : ab_St := (ae_new (ae_new (ae_new k (ac_vb q).1 (ac_vb q).2) 0 900) (ac_lb q).1 (ac_lb q).2, ac_ents q (ae_sym k.1) (ae_sym (k.1 + 1)) (ae_sym (k.1 + 2)) (ac_en z q k) ++ z.m, z.o, z.w, z.T, z.t1, z.t2)
noncomputable def ac_sk (z : ab_St) (q : Nat) : List ae_K := match ae_fd z.m 3 (ae_num 11) with
  | some m => bif Nat.beq m.2.2.1.1 0 then ae_ask z.k [ae_pls m.2.2.1.2.2 (-(q : Int)), ae_neg m.2.2.1.2.2 (q : Int)] else [z.k]
  | none => [z.k]
noncomputable def ac_hs (z : ab_St) : Option (List ab_St) := bif z.m.all (fun m => !m.2.2.2 || !(Nat.beq m.1 3 || Nat.beq m.1 219)) then some ((List.range 7).flatMap fun q => (ac_sk z q).map (ac_spl z q)) else none
section ACI
variable {L : Nat} {xs : Nat → Int32} {b : Nat → Option Value} {n T : Int} {P : Nat → Int} {ρ : Nat → Int} {g1 g2 : ap_cT} {h1 h2 : List am_E}
theorem ac_int {nn : Nat} {M : List ae_M} {h : List am_E} (H : ae_hp false nn ρ L xs M h) {p j : Nat} (hd : ∀ m ∈ M, m.2.2.2 = true → m.1 ≠ p) (hp : 0 < p ∧ p ≤ ae_np ∧ j < (ae_sh p).2.2) (hi : (ae_iv p j).1 = 0) : ∃ x : Int32, ae_cell L xs h p j = some (.int x) ∧ x.toInt = aq_ci L xs h p j ∧ (ae_iv p j).2.1 ≤ x.toInt ∧ x.toInt ≤ (ae_iv p j).2.2 := by
  obtain ⟨v, hv⟩ := ae_cell_ex (L := L) (xs := xs) H.1 hp.1 hp.2.1 hp.2.2
  rcases H.2.2.1 p j v hp.1 hv with g | ⟨m, m1, m2, m3, -⟩ | g
  · unfold ae_io at g
    rw [hi] at g
    obtain ⟨x, rfl, h1, h2⟩ := g
    exact ⟨x, hv, by unfold aq_ci; rw [hv]; rfl, h1, h2⟩
  · exact absurd m3 (hd m m1 m2)
  · exact absurd g.1 (by decide)
theorem ac_lng {nn : Nat} {M : List ae_M} {h : List am_E} (H : ae_hp false nn ρ L xs M h) {p j : Nat} (hd : ∀ m ∈ M, m.2.2.2 = true → m.1 ≠ p) (hp : 0 < p ∧ p ≤ ae_np ∧ j < (ae_sh p).2.2) (hi : (ae_iv p j).1 = 1) : ∃ x : Int64, ae_cell L xs h p j = some (.long x) ∧ x.toInt = aq_cj L xs h p j := by
  obtain ⟨v, hv⟩ := ae_cell_ex (L := L) (xs := xs) H.1 hp.1 hp.2.1 hp.2.2
  rcases H.2.2.1 p j v hp.1 hv with g | ⟨m, m1, m2, m3, -⟩ | g
  · unfold ae_io at g
    rw [hi] at g
    obtain ⟨x, rfl, h1, h2⟩ := g
    exact ⟨x, hv, by unfold aq_cj; rw [hv]⟩
  · exact absurd m3 (hd m m1 m2)
  · exact absurd g.1 (by decide)
theorem ac_e0 {nn mm : Nat} {ρ' : Nat → Int} {M : List ae_M} {h : List am_E} (H : ae_hp false nn ρ L xs M h) {p j : Nat} (hd : ∀ m ∈ M, m.2.2.2 = true → m.1 ≠ p) (hp : 0 < p ∧ p ≤ ae_np ∧ j < (ae_sh p).2.2) (hi : (ae_iv p j).1 = 0) {e : ae_X} (we : ae_wt mm e.2) (ve : ae_ev ρ' e = aq_ci L xs h p j) : ae_eo mm ρ' L xs h (p, ae_num (j : Int), (0, 0, e), false) := by
  obtain ⟨x, h1, h2, -⟩ := ac_int H hd hp hi
  exact ⟨j, .int x, ae_num_dn _, h1, x, rfl, we, by rw [ve, h2]⟩
theorem ac_e1 {nn mm : Nat} {ρ' : Nat → Int} {M : List ae_M} {h : List am_E} (H : ae_hp false nn ρ L xs M h) {p j : Nat} (hd : ∀ m ∈ M, m.2.2.2 = true → m.1 ≠ p) (hp : 0 < p ∧ p ≤ ae_np ∧ j < (ae_sh p).2.2) (hi : (ae_iv p j).1 = 1) {e : ae_X} (we : ae_wt mm e.2) (ve : ae_ev ρ' e = aq_cj L xs h p j) : ae_eo mm ρ' L xs h (p, ae_num (j : Int), (1, 0, e), false) := by
  obtain ⟨x, h1, h2⟩ := ac_lng H hd hp hi
  exact ⟨j, .long x, ae_num_dn _, h1, x, rfl, we, by rw [ve, h2]⟩
/-- what the reference sees of such a token -/
theorem ac_tok {q : Nat} {st vl tk wd nb lt at' : Int} (h : aq_tok (q : Int) st vl tk wd nb lt at') : at' = st ∧ tk = ac_tk q ∧ ((ac_lb q).1 ≤ lt ∨ (ac_lb q).1 = -2147483648) ∧ (lt ≤ (ac_lb q).2 ∨ (ac_lb q).2 = 2147483647) ∧ (q = 2 ∨ q = 3 → nb = vl) ∧ (q = 4 → wd = vl) ∧ (q = 5 → wd = -1) := by
  obtain ⟨h0, h⟩ := h
  have e : ∀ {m : Int}, (q : Int) = m → q = m.toNat := by intro m hm; omega
  rcases h with ⟨h, h1⟩ | ⟨h, h1, h2, -⟩ | ⟨h, h1, h2, h3, h4, -⟩ | ⟨h, h1, h2, h3⟩ | ⟨h, h1, h2, -⟩ | ⟨h, h1, h2, -⟩ | ⟨h, h1⟩
  all_goals (have e := e h; subst e; refine ⟨h0, h1, ?_, ?_, fun h => ?_, fun h => ?_, fun h => ?_⟩)
  all_goals first | exact Or.inr rfl | exact Or.inl (by show _ ≤ (8 : Int); omega) | exact Or.inl (by show (9 : Int) ≤ _; omega) | exact absurd h (by decide) | assumption | skip
  all_goals (rcases h with h | h <;> exact absurd h (by decide))
theorem ac_hs_ok (hr : ae_rok = true) {z : ab_St} {o : List ab_St} (q : ac_hs z = some o) (S : ab_sat (ac_G L xs b n T P) L xs ρ z g1 g2 h1 h2) : ∃ z' ∈ o, ∃ ρ', ae_up2 ρ z.k ρ' z'.k ∧ ab_sat (ac_G L xs b n T P) L xs ρ' z' g1 g2 h1 h2 := by
  obtain ⟨S1, S2, S4, S5, S6, S7, S8, S9, h0, r1', r2', r3'⟩ := S
  obtain ⟨G1, G2, G3, i, G4, G5, G6, G7, G8⟩ := id S9
  obtain ⟨hb, q⟩ := ae_bif q
  cases q
  have hd : ∀ p : Nat, p = 3 ∨ p = 219 → ∀ m ∈ z.m, m.2.2.2 = true → m.1 ≠ p := by
    intro p hp m hm hx e
    have := List.all_eq_true.mp hb m hm
    rw [hx, e] at this
    rcases hp with rfl | rfl <;> exact absurd this (by decide)
  have d3 := hd 3 (Or.inl rfl)
  have d9 := hd 219 (Or.inr rfl)
  obtain ⟨kr, vok⟩ := (G3.2.2.2.2.1.2 i G4).2
  obtain ⟨u1, u2, u3, u4, u5, u6⟩ := G7
  generalize hkd : aq_ci L xs (am_mX2 ap_b false h1 h2) 5 i = kd at *
  generalize hst : aq_ci L xs (am_mX2 ap_b false h1 h2) 6 i = st at *
  generalize hvl : aq_cj L xs (am_mX2 ap_b false h1 h2) 7 i = vl at *
  obtain ⟨qn, rfl⟩ : ∃ qn : Nat, kd = (qn : Int) := ⟨kd.toNat, by omega⟩
  have tok := ac_tok G8
  obtain ⟨t1, t2, t3, t4, t5, t6, t7⟩ := tok
  obtain ⟨xa, xa1, xa2, xa3, xa4⟩ := ac_int S4 d9 (p := 219) (j := 15) ⟨by decide, by decide, by decide⟩ rfl
  obtain ⟨xl, xl1, xl2, xl3, xl4⟩ := ac_int S4 d9 (p := 219) (j := 18) ⟨by decide, by decide, by decide⟩ rfl
  have xa3 : (0 : Int) ≤ xa.toInt := xa3
  have xa4 : xa.toInt ≤ 900 := xa4
  have xl3 : (-2147483648 : Int) ≤ xl.toInt := xl3
  have xl4 : xl.toInt ≤ 2147483647 := xl4
  -- the case
  obtain ⟨k1, mk1, K1, n1⟩ : ∃ k1 ∈ ac_sk z qn, ae_okK ρ k1 ∧ k1.1 = z.k.1 := by
    unfold ac_sk
    split
    · rename_i m hm
      cases h0' : Nat.beq m.2.2.1.1 0 with
      | false => exact ⟨z.k, List.mem_singleton.mpr rfl, S1, rfl⟩
      | true =>
        obtain ⟨m1, m2, m3⟩ := ae_fd_ok hm
        obtain ⟨j', v, e1, e2, e3⟩ := S4.2.1 m m1
        rw [m3] at e1
        have hj : j' = 11 := by have := e1.2; rw [(ae_num_dn (n := z.k.1) (ρ := ρ) 11).2] at this; omega
        subst hj
        rw [m2] at e2
        obtain ⟨x, rfl, d⟩ := ae_ok0 e3 h0'
        have hx : x.toInt = (qn : Int) := by
          have : aq_ci L xs (am_mX2 ap_b false h1 h2) 3 11 = x.toInt := by unfold aq_ci; rw [e2]; rfl
          omega
        refine ae_ask_ok (es := [ae_pls m.2.2.1.2.2 (-(qn : Int)), ae_neg m.2.2.1.2.2 (qn : Int)]) S1 (fun e he => ?_)
        rcases List.mem_cons.mp he with rfl | he
        · have d1 := ae_pls_dn d (-(qn : Int)); exact ⟨d1.1, by rw [d1.2]; omega⟩
        · rw [List.mem_singleton.mp he]
          have d1 := ae_neg_dn d (qn : Int); exact ⟨d1.1, by rw [d1.2]; omega⟩
    · exact ⟨z.k, List.mem_singleton.mpr rfl, S1, rfl⟩
  have q7 : qn < 7 := by omega
  -- the symbols
  obtain ⟨vv, hvv, hvb1, hvb2⟩ : ∃ vv : Int, ((qn = 1 ∨ qn = 2 ∨ qn = 3 ∨ qn = 4) → vv = vl) ∧ (ac_vb qn).1 ≤ vv ∧ vv ≤ (ac_vb qn).2 := by
    by_cases hq : qn = 1 ∨ qn = 2 ∨ qn = 3 ∨ qn = 4
    · refine ⟨vl, fun _ => rfl, ?_⟩
      obtain ⟨o1, o2, o3, o4⟩ := vok
      rcases hq with rfl | rfl | rfl | rfl
      · exact o1 rfl
      · exact o2 rfl
      · exact o3 rfl
      · exact o4 rfl
    · refine ⟨0, fun h => absurd h hq, ?_⟩
      have : qn = 0 ∨ qn = 5 ∨ qn = 6 := by omega
      rcases this with rfl | rfl | rfl <;> exact ⟨Int.le_refl 0, Int.le_refl 0⟩
  have hl1 : (ac_lb qn).1 ≤ xl.toInt := by rcases t3 with h | h <;> omega
  have hl2 : xl.toInt ≤ (ac_lb qn).2 := by rcases t4 with h | h <;> omega
  have K2 := ae_new_ok K1 hvb1 hvb2
  have K3 := ae_new_ok (lo := 0) (hi := 900) K2 xa3 xa4
  have K4 := ae_new_ok K3 hl1 hl2
  generalize hρ : ae_up (ae_up (ae_up ρ k1.1 vv) (ae_new k1 (ac_vb qn).1 (ac_vb qn).2).1 xa.toInt) (ae_new (ae_new k1 (ac_vb qn).1 (ac_vb qn).2) 0 900).1 xl.toInt = ρ' at K4
  have pv : ρ' k1.1 = vv := by
    rw [← hρ]
    show ae_up (ae_up (ae_up ρ k1.1 vv) (k1.1 + 1) xa.toInt) (k1.1 + 1 + 1) xl.toInt k1.1 = vv
    rw [ae_up_ag _ (k1.1 + 1 + 1) xl.toInt k1.1 (by omega), ae_up_ag _ (k1.1 + 1) xa.toInt k1.1 (by omega), ae_up_at]
  have ps : ρ' (k1.1 + 1) = xa.toInt := by
    rw [← hρ]
    show ae_up (ae_up (ae_up ρ k1.1 vv) (k1.1 + 1) xa.toInt) (k1.1 + 1 + 1) xl.toInt (k1.1 + 1) = xa.toInt
    rw [ae_up_ag _ (k1.1 + 1 + 1) xl.toInt (k1.1 + 1) (by omega)]
    exact ae_up_at _ _ _
  have pl : ρ' (k1.1 + 2) = xl.toInt := by rw [← hρ]; exact ae_up_at _ _ _
  have ag : ae_ag z.k.1 ρ ρ' := by
    intro s hs
    rw [← hρ]
    show ae_up (ae_up (ae_up ρ k1.1 vv) (k1.1 + 1) xa.toInt) (k1.1 + 1 + 1) xl.toInt s = ρ s
    rw [ae_up_ag _ (k1.1 + 1 + 1) xl.toInt s (by omega), ae_up_ag _ (k1.1 + 1) xa.toInt s (by omega), ae_up_ag ρ k1.1 vv s (by omega)]
  have up : ae_up2 ρ z.k ρ' (ae_new (ae_new (ae_new k1 (ac_vb qn).1 (ac_vb qn).2) 0 900) (ac_lb qn).1 (ac_lb qn).2) := ⟨by show z.k.1 ≤ k1.1 + 1 + 1 + 1; omega, ag, K4⟩
  have ev1 : ∀ {s : Nat}, ae_ev ρ' (ae_sym s) = ρ' s := fun {s} => (ae_sym_dn (n := s + 1) (Nat.lt_succ_self s)).2
  have evn : ∀ {c : Int}, ae_ev ρ' (ae_num c) = c := fun {c} => (ae_num_dn (n := 0) c).2
  have ws : ∀ {s : Nat}, s < k1.1 + 1 + 1 + 1 → ae_wt (k1.1 + 1 + 1 + 1) (ae_sym s).2 := fun h => ⟨h, trivial⟩
  have hen : qn = 4 → ae_wt (k1.1 + 1 + 1 + 1) (ac_en z qn k1).2 ∧ ae_ev ρ' (ac_en z qn k1) = vl := by
    intro h4
    unfold ac_en
    split
    · rename_i m hm
      cases hk : Nat.beq m.2.2.1.1 1 && Nat.beq qn 4 with
      | false => exact ⟨ws (by omega), by show ae_ev ρ' (ae_sym k1.1) = vl; rw [ev1, pv, hvv (by omega)]⟩
      | true =>
        rw [Bool.and_eq_true] at hk
        obtain ⟨m1, m2, m3⟩ := ae_fd_ok hm
        obtain ⟨j', v, e1, e2, e3⟩ := S4.2.1 m m1
        rw [m3] at e1
        have hj : j' = 15 := by have := e1.2; rw [(ae_num_dn (n := z.k.1) (ρ := ρ) 15).2] at this; omega
        subst hj
        rw [m2] at e2
        have e3' : ∃ x : Int64, v = .long x ∧ ae_dn z.k.1 ρ m.2.2.1.2.2 x.toInt := by
          have hk1 := Nat.eq_of_beq_eq_true hk.1
          unfold ae_ok at e3
          rw [hk1] at e3
          exact e3
        obtain ⟨x, rfl, d⟩ := e3'
        have d' := ae_dn_ext (m := k1.1 + 1 + 1 + 1) (by omega) ag d
        refine ⟨d'.1, d'.2.trans ?_⟩
        have : aq_cj L xs (am_mX2 ap_b false h1 h2) 3 15 = x.toInt := by unfold aq_cj; rw [e2]
        rw [← this, u5, if_pos (by omega)]
    · exact ⟨ws (by omega), by show ae_ev ρ' (ae_sym k1.1) = vl; rw [ev1, pv, hvv (by omega)]⟩
  have nb : ∀ {m : Nat}, qn ≠ m → Nat.beq qn m = false := fun {m} h => by
    cases hx : Nat.beq qn m with
    | false => rfl
    | true => exact absurd (Nat.eq_of_beq_eq_true hx) h
  refine ⟨_, List.mem_flatMap.mpr ⟨qn, List.mem_range.mpr q7, List.mem_map.mpr ⟨k1, mk1, rfl⟩⟩, ρ', up, K4, ae_k0_up S2 up, ?_, ap_tt_ext up.1 up.2.1 S5, ap_tt_ext up.1 up.2.1 S6, S7, S8, S9, h0, r1', r2', fun m hm => ae_eo_ext up.1 up.2.1 (r3' m hm)⟩
  refine ae_hp_add (ae_hp_ext up.1 up.2.1 S4) (fun m hm => ?_)
  unfold ac_ents at hm
  rcases List.mem_append.mp hm with hm | hm
  · simp only [List.mem_cons, List.not_mem_nil, or_false] at hm
    rcases hm with rfl | rfl | rfl | rfl | rfl | rfl | rfl | rfl | rfl
    · exact ac_e0 S4 d3 (j := 11) ⟨by decide, by decide, by decide⟩ rfl trivial (by rw [evn, u1])
    · refine ac_e0 S4 d3 (j := 12) ⟨by decide, by decide, by decide⟩ rfl ?_ ?_
      · cases Nat.beq qn 1 with
        | true => exact ws (by omega)
        | false => trivial
      · rw [u2]
        by_cases h : qn = 1
        · subst h; show ae_ev ρ' (ae_sym k1.1) = vl; rw [ev1, pv, hvv (Or.inl rfl)]
        · rw [nb h, if_neg (by omega)]; exact evn
    · refine ac_e0 S4 d3 (j := 13) ⟨by decide, by decide, by decide⟩ rfl ?_ ?_
      · cases Nat.beq qn 2 with
        | true => exact ws (by omega)
        | false => trivial
      · rw [u3]
        by_cases h : qn = 2
        · subst h; show ae_ev ρ' (ae_sym k1.1) = vl; rw [ev1, pv, hvv (by omega)]
        · rw [nb h, if_neg (by omega)]; exact evn
    · refine ac_e0 S4 d3 (j := 14) ⟨by decide, by decide, by decide⟩ rfl ?_ ?_
      · cases Nat.beq qn 3 with
        | true => exact ws (by omega)
        | false => trivial
      · rw [u4]
        by_cases h : qn = 3
        · subst h; show ae_ev ρ' (ae_sym k1.1) = vl; rw [ev1, pv, hvv (by omega)]
        · rw [nb h, if_neg (by omega)]; exact evn
    · refine ac_e1 S4 d3 (j := 15) ⟨by decide, by decide, by decide⟩ rfl ?_ ?_
      · by_cases h : qn = 4
        · subst h; exact (hen rfl).1
        · rw [nb h]; trivial
      · rw [u5]
        by_cases h : qn = 4
        · subst h; exact (hen rfl).2
        · rw [nb h, if_neg (by omega)]; exact evn
    · exact ac_e0 S4 d3 (j := 16) ⟨by decide, by decide, by decide⟩ rfl (ws (by omega)) (by rw [ev1, ps, u6]; omega)
    · exact ac_e0 S4 d9 (j := 14) ⟨by decide, by decide, by decide⟩ rfl trivial (by rw [evn, t2])
    · exact ac_e0 S4 d9 (j := 15) ⟨by decide, by decide, by decide⟩ rfl (ws (by omega)) (by rw [ev1, ps, xa2])
    · exact ac_e0 S4 d9 (j := 18) ⟨by decide, by decide, by decide⟩ rfl (ws (by omega)) (by rw [ev1, pl, xl2])
  · rcases List.mem_append.mp hm with hm | hm
    · by_cases h : qn = 2 ∨ qn = 3
      · have hm : m ∈ [(219, ae_num 17, ((0, 0, ae_sym k1.1) : ae_V), false)] := by rcases h with rfl | rfl <;> exact hm
        rw [List.mem_singleton.mp hm]
        exact ac_e0 S4 d9 (j := 17) ⟨by decide, by decide, by decide⟩ rfl (ws (by omega)) (by rw [ev1, pv, hvv (by omega), t5 h])
      · rw [nb (fun e => h (Or.inl e)), nb (fun e => h (Or.inr e))] at hm
        exact absurd hm List.not_mem_nil
    · by_cases h : qn = 4
      · subst h
        have hm : m ∈ [(219, ae_num 19, ((1, 0, ac_en z 4 k1) : ae_V), false)] := hm
        rw [List.mem_singleton.mp hm]
        exact ac_e1 S4 d9 (j := 19) ⟨by decide, by decide, by decide⟩ rfl (hen rfl).1 (by rw [(hen rfl).2, t6 rfl])
      · by_cases h5 : qn = 5
        · subst h5
          have hm : m ∈ [(219, ae_num 19, ((1, 0, ae_num (-1)) : ae_V), false)] := hm
          rw [List.mem_singleton.mp hm]
          exact ac_e1 S4 d9 (j := 19) ⟨by decide, by decide, by decide⟩ rfl trivial (by rw [evn, t7 rfl])
        · rw [nb h, nb h5] at hm
          exact absurd hm List.not_mem_nil
end ACI

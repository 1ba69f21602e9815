/-! days(n), both: from the call to the answers -/
theorem dr_vac {T : List ab_Ti} {f : Nat → Nat → Int} (q : (T.all fun t => t.2.2.2.2.1.any fun g => ab_qg g (0, -1, [(1, 68, 5, 0)])) = true) (h : f 68 5 = 0) : ab_RI T f := fun t ht i _ => by
  obtain ⟨g, hg, e⟩ := List.any_eq_true.mp (List.all_eq_true.mp q t ht)
  have e := ab_qg_ok _ _ e
  subst e
  refine Or.inl ⟨_, hg, ?_⟩
  show (0 : Int) + (-1) * (i : Int) + (1 * f 68 (5 + 0 * i) + 0) ≤ 0
  rw [Nat.zero_mul, Nat.add_zero, h]
  omega
noncomputable def dr_Q (L : Nat) (xs : Nat → Int32) (v1 v2 : Option Value) (e1 e2 : List am_E) : Prop := ae_hk false L xs e1 ∧ ae_hk false L xs e2 ∧ ab_RI lw_TD (ab_cv L xs (am_mX2 ap_b false e1 e2)) ∧ aq_ci L xs e1 3 8 = 0 ∧ ∃ x : Int32, v1 = some (.int x) ∧ v2 = some (.int x)
noncomputable def da_Q (L : Nat) (xs : Nat → Int32) (v1 v2 : Option Value) (e1 e2 : List am_E) : Prop := ae_hk false L xs e1 ∧ ae_hk false L xs e2 ∧ ab_RI lw_TD (ab_cv L xs (am_mX2 ap_b false e1 e2)) ∧ aq_ci L xs e1 3 8 = aq_ci L xs e2 219 8 ∧ ∃ x : Int32, v1 = some (.int x) ∧ v2 = some (.int x)
section DRY
variable {L : Nat} {xs : Nat → Int32} {r0 : Nat → Int}
theorem dr_gfr : ac_gfr dr_mo := ⟨fun _ => rfl, fun _ => rfl, fun _ => rfl, fun _ => rfl, by decide, by decide⟩
/-- from the taken text on -/
theorem dc_every (hL : L ≤ 3072) : ∀ t ∈ dc_tms, ab_ok dc_W (nt_G L xs r0) L xs (dr_Q L xs) r0 t :=
  dc_all hL (bh_cons (P := fun t => ab_ok dc_W (nt_G L xs r0) L xs (dr_Q L xs) r0 t) (ad_endT (a := (0, [(1, 1)])) (b := (0, [(1, 1)])) ae_fok_ok rfl (by decide) (fun ρ x y e1 e2 _ _ hm d1 d2 k1 k2 _ ri => ⟨k1, k2, ri, by
      rw [← aq_ciA k1.1.1 k2.1.1 (show Nat.blt 3 219 = true from rfl)]
      exact ad_c0 hm (p := 3) (j := 8) (e := ae_num 0) (by decide), x, rfl, by rw [Int32.toInt_inj.mp (d1.symm.trans d2)]⟩)) bh_nil)
theorem dr_good (hL : L ≤ 3072) {G : List am_E → Prop} : ab_ok dr_W G L xs (dr_Q L xs) r0 dr_479 := by
  intro ρ g1 g2 h1 h2 S s1 s2
  obtain ⟨S1, S2, S4, S5, S6, S7, S8, S9, S10⟩ := S
  exact ad_end_mo (by decide +kernel) (fun _ _ _ _ _ q => q) (dc_every hL dc_t0 (List.mem_append_left _ List.mem_cons_self) ρ g1 g2 h1 h2 ⟨S1, S2, S4, S5, S6, S7, S8, trivial, S10⟩ s1 s2)
theorem dr_fail {G : List am_E → Prop} : ab_ok dr_W G L xs (dr_Q L xs) r0 dr_480 :=
  ad_endT (a := (-1, [])) (b := (-1, [])) ae_fok_ok rfl (by decide) (fun ρ x y e1 e2 _ _ hm d1 d2 k1 k2 _ ri => ⟨k1, k2, ri, by
      rw [← aq_ciA k1.1.1 k2.1.1 (show Nat.blt 3 219 = true from rfl)]
      exact ad_c0 hm (p := 3) (j := 8) (e := ae_num 0) (by decide), x, rfl, by rw [Int32.toInt_inj.mp (d1.symm.trans d2)]⟩)
theorem dr_all (hL : L ≤ 3072) {b : Nat → Option Value} {n T : Int} {P : Nat → Int} (hn : n ≤ 300) : ∀ t ∈ dr_W.tms, ab_ok dr_W (ac_G L xs b n T P) L xs (dr_Q L xs) r0 t :=
  ab_all ae_rok_ok ae_fok_ok hL dr_ct (by decide +kernel) (fun _ _ q f => ac_G_fr dr_gfr q f) (rd_HOK ae_rok_ok ae_fok_ok hL hn rfl (by decide +kernel) (by decide +kernel) (by decide +kernel) (by decide +kernel) ⟨fun _ => rfl, fun _ => rfl, fun _ => rfl, fun _ => rfl, by decide, by decide⟩ ⟨fun _ => rfl, fun _ => rfl, fun _ => rfl, fun _ => rfl, by decide, by decide⟩) (dr_hT (dr_good hL) dr_fail)
noncomputable def da_G (L : Nat) (xs : Nat → Int32) (h : List am_E) : Prop := ∀ j, j < 900 → ae_cell L xs h 223 j = ae_cell L xs h 4 j
noncomputable def da_r (L : Nat) (kd : Int) : Nat → Int
  | 0 => (L : Int)
  | 1 => kd
  | _ => 1
/-- the tokens are cut, the first one is looked at -/
theorem da_mid (hL : L ≤ 3072) : ab_ok da_W (da_G L xs) L xs (da_Q L xs) r0 da_1 := by
  intro ρ g1 g2 h1 h2 S _ _
  obtain ⟨S1, S2, S4, S5, S6, S7, S8, S9, h0, RI0, RF, -⟩ := S
  have l1 := S7.1.1
  have l2 := S8.1.1
  have kM := aq_hk_sat ae_fok_ok S4 (by decide)
  have kA := aq_own_hk false kM S7 l2
  have kB : ae_hk false L xs h2 := aq_own_hk true (by rw [ap_mX_not]; exact kM) S8 l1
  have K0 : ae_k0 ρ L da_1.st.k := S2
  have hL0 : ρ 0 = (L : Int) := K0.2
  have bd : 0 ≤ ρ 1 ∧ ρ 1 ≤ 300 := aq_bd S1 (s := 1) (lo := 0) (hi := 300) (by decide)
  have ci : ∀ {p j : Nat} {e : ae_X}, (p, ae_num (j : Int), ((0, 0, e) : ae_V), false) ∈ da_1.st.m → aq_ci L xs (am_mX2 ap_b false h1 h2) p j = ae_ev ρ e := fun hm => ad_c0 S4.2.1 hm
  have ev1 : ae_ev ρ (0, [(1, 1)]) = ρ 1 := by show (0 : Int) + (1 * ρ 1 + 0) = ρ 1; omega
  have A : ∀ {p j : Nat}, Nat.blt p 219 = true → aq_ci L xs (am_mX2 ap_b false h1 h2) p j = aq_ci L xs h1 p j := fun hp => aq_ciA l1 l2 hp
  have B : ∀ {p j : Nat}, Nat.blt p 219 = false → aq_ci L xs (am_mX2 ap_b false h1 h2) p j = aq_ci L xs h2 p j := fun hp => aq_ciB l1 l2 hp
  have b23 : ∀ j, j < 900 → ae_cell L xs h2 223 j = ae_cell L xs h1 4 j := fun j hj => by
    have := S9 j hj
    rw [ap_cx (s := false) l1 l2 rfl, ap_c (s := false) l1 l2 rfl] at this
    exact this
  obtain ⟨c1s, v1⟩ := g1
  obtain ⟨c2s, v2⟩ := g2
  match c1s, S5.1 with
  | [], F => exact absurd F id
  | [_], F => exact absurd F.2 id
  | [_, _], F => exact absurd F.2.2 id
  | _ :: _ :: _ :: _ :: _, F => exact absurd F.2.2.2 id
  | [(d0, y0, p0, lw0, sw0), (d1, y1, p1, lw1, sw1), (d3, y3, p3, lw3, sw3)], ⟨⟨q1, q2, q3, q4, q5⟩, ⟨⟨u1, u2, u3, u4, u5⟩, ⟨⟨w1, w2, w3, w4, w5⟩, _⟩⟩⟩ =>
  have q1 : 60 ≤ d0 := q1
  have q2 : 49 = y0 := q2
  have q3 : 40 = p0 := q3
  subst q2; subst q3
  have u1 : 61 ≤ d1 := u1
  have u2 : 9 = y1 := u2
  have u3 : 20 = p1 := u3
  subst u2; subst u3
  have w1 : 62 ≤ d3 := w1
  have w2 : 146 = y3 := w2
  have w3 : 36 = p3 := w3
  subst w2; subst w3
  have nil : ∀ {s : List Value}, ae_sr da_1.st.k.1 ρ [] s → s = [] := fun {s} h => by
    cases s with
    | nil => rfl
    | cons _ _ => exact absurd h id
  obtain rfl := nil q5
  obtain rfl := nil u5
  obtain rfl := nil w5
  obtain ⟨x0, g0, o0⟩ := q4 (0, (2, 3, (0, []))) (by decide)
  obtain ⟨x2, g2', o2⟩ := q4 (2, (0, 0, (1, []))) (by decide)
  obtain ⟨x3, g3, o3⟩ := q4 (3, (0, 0, (0, []))) (by decide)
  have o0 : x0 = .ref 3 := o0
  subst o0
  obtain ⟨i2, rfl, e2⟩ := o2
  obtain ⟨i3, rfl, e3⟩ := o3
  have e2 : (1 : Int) + 0 = i2.toInt := e2.2
  have e3 : (0 : Int) + 0 = i3.toInt := e3.2
  -- the class's tokens
  obtain ⟨m, e, T, P, r1, r2, r3, r4x, r5, r6, r7⟩ := ac_loop (b := fun j => ae_cell L xs h1 4 j) (n := ρ 1) ae_rok_ok ae_fok_ok hL (by omega) ((ρ 1 - 0).toNat + 1) 0 0 (fun _ => 0) h1 d0 lw0 i2 i3 (by omega) (ae_hk_wk kA) (fun _ _ => rfl) (by rw [← A rfl, ci (p := 3) (j := 4) (e := (0, [])) (by decide)]; rfl) (by rw [← A rfl, ci (p := 3) (j := 6) (e := (0, [(1, 1)])) (by decide), ev1]) (by rw [← A rfl, ci (p := 3) (j := 7) (e := (0, [])) (by decide)]; rfl) (by rw [← A rfl, ci (p := 3) (j := 5) (e := (0, [])) (by decide)]; rfl) (Int.le_refl 0) (Int.le_refl 0) bd.1 rfl ⟨rfl, fun i hi => absurd hi (by omega)⟩ (fun i hi => absurd hi (by omega)) ⟨h2, ae_hk_wk kB, b23, by rw [← B rfl, ci (p := 219) (j := 9) (e := (0, [(1, 1)])) (by decide), ev1], by rw [← B rfl, ci (p := 219) (j := 16) (e := (0, [])) (by decide)]; rfl⟩ (by omega) g0 g2' (by omega) g3 (by omega)
  have r4 := ae_hk_bk ae_fok_ok kA r4x r3 (by decide)
  obtain ⟨t1, t2, t3, t4, ⟨t5, t6⟩, t7⟩ := id r5
  obtain ⟨n1, ⟨k0, k6⟩, vk⟩ := t6 0 (by omega)
  -- the reference's first token
  have nxt := fun d (hd : 20 ≤ d) => n1 h2 d (lv_args 0 [.ref 219]) (ae_hk_wk kB) b23 (by rw [← B rfl, ci (p := 219) (j := 9) (e := (0, [(1, 1)])) (by decide), ev1]) (by rw [← B rfl, ci (p := 219) (j := 16) (e := (0, [])) (by decide), t5]; rfl) hd rfl
  obtain ⟨m2, e', z1, z2x, z3, z4, z5, z6⟩ := nxt 20 (Nat.le_refl _)
  have z2 := ae_hk_bk ae_fok_ok kB z2x z4 (by decide)
  obtain ⟨g2n, tn, rn⟩ := ac_ret (f := (61, 250, 44, [(0, (2, 219, (0, []))), (1, (0, 0, (0, [(1, 1)]))), (2, (0, 0, (300, [])))], [(2, 219, (0, []))])) (s := []) (r := [(62, 265, 18, [(0, (2, 219, (0, []))), (1, (0, 0, (0, [(1, 1)])))], [])]) (a0 := (2, 219, (0, []))) (t := da_1.st.t2) (a := 219) (p := 219) (own := 12) (dn := 20) rfl rfl (by decide +kernel) (by decide) (by decide) (by decide) (by decide) (by decide) (by decide +kernel) (by decide +kernel) (by decide +kernel) S8.1 S6 (fun d hd => ⟨m2, am_go_deep z1 hd⟩)
  have le1 := r4.1.1
  have le2 := z2.1.1
  have kM' := aq_mixhk r4 z2
  have A' : ∀ {p j : Nat}, Nat.blt p 219 = true → aq_ci L xs (am_mX2 ap_b false e e') p j = aq_ci L xs e p j := fun hp => aq_ciA le1 le2 hp
  have B' : ∀ {p j : Nat}, Nat.blt p 219 = false → aq_ci L xs (am_mX2 ap_b false e e') p j = aq_ci L xs e' p j := fun hp => aq_ciB le1 le2 hp
  have frm : ae_fr (ac_bmo ++ [(219, 14, 19)]) L xs (am_mX2 ap_b false h1 h2) (am_mX2 ap_b false e e') := by
    intro p j hp
    have hp' : (ac_bmo.any fun r => Nat.beq r.1 p && ae_le r.2.1 (j : Int) && ae_le (j : Int) r.2.2) = false ∧ ([((219, 14, 19) : Nat × Int × Int)].any fun r => Nat.beq r.1 p && ae_le r.2.1 (j : Int) && ae_le (j : Int) r.2.2) = false := by
      have hp : ((ac_bmo ++ [((219, 14, 19) : Nat × Int × Int)]).any fun r => Nat.beq r.1 p && ae_le r.2.1 (j : Int) && ae_le (j : Int) r.2.2) = false := hp
      rw [List.any_append, Bool.or_eq_false_iff] at hp
      exact hp
    cases hs : am_sd ap_b false p with
    | true =>
      rw [ap_c (s := false) le1 le2 hs, ap_c (s := false) l1 l2 hs]
      exact r3 p j hp'.1
    | false =>
      rw [ap_cx (s := false) le1 le2 hs, ap_cx (s := false) l1 l2 hs]
      exact z4 p j hp'.2
  have keep : ∀ {p j : Nat}, ae_inm (ac_bmo ++ [(219, 14, 19)]) p j = false → aq_ci L xs (am_mX2 ap_b false e e') p j = aq_ci L xs (am_mX2 ap_b false h1 h2) p j := fun hp => aq_ci_fr frm hp
  -- what is known then
  have GG : ac_G L xs (fun j => ae_cell L xs h1 4 j) (ρ 1) T P (am_mX2 ap_b false e e') := by
    refine ⟨fun j hj => ?_, ?_, ac_lex_eq (A' rfl) (A' rfl) (fun j => A' rfl) (fun j => A' rfl) (fun j => aq_cjA le1 le2 rfl) r5, 0, by omega, by rw [A' rfl, r6]; rfl, by rw [B' rfl]; exact z5, ?_, ?_⟩
    · rw [frm 223 j rfl, ap_cx (s := false) l1 l2 rfl]; exact b23 j hj
    · rw [keep (p := 219) (j := 9) (by decide), ci (p := 219) (j := 9) (e := (0, [(1, 1)])) (by decide), ev1]
    · unfold ac_cur at r7 ⊢
      rw [A' rfl, A' rfl, A' rfl, A' rfl, A' rfl, aq_cjA le1 le2 rfl, A' rfl, A' rfl, aq_cjA le1 le2 rfl]
      exact r7
    · unfold aq_tokh at z6 ⊢
      rw [B' (p := 219) (j := 14) rfl, B' (p := 219) (j := 15) rfl, B' (p := 219) (j := 17) rfl, B' (p := 219) (j := 18) rfl, aq_cjB (p := 219) (j := 19) le1 le2 rfl, A' (p := 5) (j := 0) rfl, A' (p := 6) (j := 0) rfl, aq_cjA (p := 7) (j := 0) le1 le2 rfl]
      exact z6
  have evk : ∀ {c : Int}, ae_ev (da_r L (aq_ci L xs e 5 0)) (c, []) = c := fun {c} => by show c + 0 = c; omega
  have start := dr_all (r0 := da_r L (aq_ci L xs e 5 0)) hL bd.2 dr_0 List.mem_cons_self (da_r L (aq_ci L xs e 5 0)) ([(d1, 9, 20, lw1, []), (d3, 146, 36, lw3, [])], v1) g2n e e' ⟨⟨fun q hq => ?_, fun f hf => absurd hf List.not_mem_nil, fun d hd => absurd hd List.not_mem_nil⟩, ⟨⟨by decide, by omega⟩, rfl⟩, ad_hp_new kM' (fun m hm => ?_), ⟨⟨⟨by show 60 ≤ d1; omega, rfl, rfl, ?_, trivial⟩, ⟨⟨by show 61 ≤ d3; omega, rfl, rfl, ?_, trivial⟩, trivial⟩⟩, fun e => by cases e⟩, ?_, aq_hs_of false r4, aq_hs_of true z2, GG, ⟨_, lw_T_nw (mo := ac_bmo ++ [(219, 14, 19)]) (by decide +kernel) frm (ab_RI_eq (fun p j => ab_cv_fr RF rfl) RI0), ae_fr_rf _ _ _ _, fun m hm => absurd hm List.not_mem_nil⟩⟩ (by decide) (fun _ _ => rfl)
  · -- the whole
    obtain ⟨a1, f1, a2, f2, y1, y2, y3, y4, y5, y6⟩ := start
    refine ⟨a1, f1, a2, f2, ?_, rn _ y2, ap_sm_tr r2 y3, ap_sm_tr z3 y4, ae_fr_tr (fun p j hp => frm p j (ae_sub2_ok (b := da_mo2) (by decide +kernel) hp)) (fun p j hp => y5 p j (ae_sub2_ok (b := da_mo2) (by decide +kernel) hp)), ?_⟩
    · exact ⟨m, none, e, r1, y1⟩
    · obtain ⟨k1, k2, ri1, s1, x, x1, x2⟩ := y6
      refine ⟨k1, k2, ri1, ?_, x, x1, x2⟩
      have h8 : aq_ci L xs (am_mX2 ap_b false f1 f2) 219 8 = aq_ci L xs (am_mX2 ap_b false e e') 219 8 := aq_ci_fr y5 (by decide +kernel)
      rw [aq_ciB k1.1.1 k2.1.1 rfl, keep (p := 219) (j := 8) (by decide), ci (p := 219) (j := 8) (e := (0, [])) (by decide)] at h8
      rw [s1, h8]; rfl
  · have hq : q ∈ ([(1, 0, 6), (2, 1, 1)] : ae_B) := hq
    simp only [List.mem_cons, List.not_mem_nil, or_false] at hq
    rcases hq with rfl | rfl
    · exact ⟨(by decide : 1 < 3), k0, k6⟩
    · exact ⟨(by decide : 2 < 3), Int.le_refl 1, Int.le_refl 1⟩
  · have hm : m ∈ ([(219, (12, []), (0, 0, (0, [])), false), (3, (11, []), (0, 0, (0, [(1, 1)])), false), (3, (5, []), (0, 0, (0, [(2, 1)])), false), (67, (4, []), (0, 0, (0, [])), false), (68, (5, []), (0, 0, (0, [])), false)] : List ae_M) := hm
    simp only [List.mem_cons, List.not_mem_nil, or_false] at hm
    rcases hm with rfl | rfl | rfl | rfl | rfl
    · exact aq_eo kM' (j := 12) ⟨by decide, by decide, by decide⟩ rfl rfl rfl rfl (by rw [keep (p := 219) (j := 12) (by decide), ci (p := 219) (j := 12) (e := (0, [])) (by decide)]; rfl)
    · exact aq_eo kM' (j := 11) ⟨by decide, by decide, by decide⟩ rfl rfl rfl rfl (by rw [A' rfl, r7.1]; show (0 : Int) + (1 * aq_ci L xs e 5 0 + 0) = _; omega)
    · exact aq_eo kM' (j := 5) ⟨by decide, by decide, by decide⟩ rfl rfl rfl rfl (by rw [A' rfl, r6]; rfl)
    · exact aq_eo kM' (j := 4) ⟨by decide, by decide, by decide⟩ rfl rfl rfl rfl (by rw [keep (p := 67) (j := 4) (by decide), ci (p := 67) (j := 4) (e := (0, [])) (by decide)]; rfl)
    · exact aq_eo kM' (j := 5) ⟨by decide, by decide, by decide⟩ rfl rfl rfl rfl (by rw [keep (p := 68) (j := 5) (by decide), ci (p := 68) (j := 5) (e := (0, [])) (by decide)]; rfl)
  · intro p hp
    rw [List.mem_singleton.mp hp]
    obtain ⟨v, v1, v2⟩ := u4 (0, (2, 67, (0, []))) (by decide)
    exact ⟨v, v1, v2⟩
  · intro p hp
    rw [List.mem_singleton.mp hp]
    obtain ⟨v, v1, v2⟩ := w4 (0, (2, 1, (0, []))) (by decide)
    exact ⟨v, v1, v2⟩
  · -- the reference's frames
    obtain ⟨gf, gv⟩ := g2n
    match gf, tn.1 with
    | [], F => exact absurd F id
    | [_], F => exact absurd F.2 id
    | _ :: _ :: _ :: _, F => exact absurd F.2.2 id
    | [a, c], ⟨⟨a1, a2, a3, a4, a5⟩, ⟨⟨c1, c2, c3, c4, c5⟩, _⟩⟩ =>
      refine ⟨⟨⟨?_, a2, a3, fun p hp => ?_, ?_⟩, ⟨⟨?_, c2, c3, fun p hp => ?_, ?_⟩, trivial⟩⟩, fun e => by cases e⟩
      · have a1 : 61 ≤ a.1 := a1
        show 60 ≤ a.1
        omega
      · rw [List.mem_singleton.mp hp]
        obtain ⟨v, v1, v2⟩ := a4 (0, (2, 219, (0, []))) (by decide)
        exact ⟨v, v1, v2⟩
      · have e := nil a5
        show ae_sr _ _ [] a.2.2.2.2
        rw [e]; trivial
      · have c1 : 62 ≤ c.1 := c1
        show 61 ≤ c.1
        omega
      · rw [List.mem_singleton.mp hp]
        obtain ⟨v, v1, v2⟩ := c4 (0, (2, 219, (0, []))) (by decide)
        exact ⟨v, v1, v2⟩
      · have e := nil c5
        show ae_sr _ _ [] c.2.2.2.2
        rw [e]; trivial
end DRY
section DCA
variable {L : Nat} {xs : Nat → Int32}
/-- days' start -/
theorem da_call (hL : L ≤ 3072) {hA hB : List am_E} (kA : ae_hk false L xs hA) (kB : ae_hk false L xs hB) {x : Int32} {d : Nat} (hd : 62 ≤ d) (c : aq_ci L xs hA 3 8 = aq_ci L xs hB 219 8) (mir : ∀ j, j < 900 → ae_cell L xs (am_mX2 ap_b false hA hB) 223 j = ae_cell L xs (am_mX2 ap_b false hA hB) 4 j) (ri0 : ab_RI lw_TD (ab_cv L xs (am_mX2 ap_b false hA hB))) :
    ap_end da_mo2 L xs (da_Q L xs) ([(d, 146, 0, lv_args 0 [.ref 1, .int x], [])], none) ([(d, 265, 0, lv_args 0 [.ref 219, .int x], [])], none) hA hB := by
  have kM := aq_mixhk kA kB
  have l1 := kA.1.1
  have l2 := kB.1.1
  obtain ⟨z, z1, z2, z3, z4⟩ := aq_int kA (p := 3) (j := 8) ⟨by decide, by decide, by decide⟩ rfl
  have z3 : (0 : Int) ≤ z.toInt := z3
  have z4 : z.toInt ≤ 900 := z4
  have ev1 : ae_ev (dd_r L z.toInt x.toInt) (0, [(1, 1)]) = z.toInt := by show (0 : Int) + (1 * z.toInt + 0) = z.toInt; omega
  have ev2 : ae_ev (dd_r L z.toInt x.toInt) (0, [(2, 1)]) = x.toInt := by show (0 : Int) + (1 * x.toInt + 0) = x.toInt; omega
  have lv : ∀ p : Nat, ae_lr 3 (dd_r L z.toInt x.toInt) [(0, (2, p, (0, []))), (1, (0, 0, (0, [(2, 1)])))] (lv_args 0 [.ref p, .int x]) := by
    intro p q hq
    simp only [List.mem_cons, List.not_mem_nil, or_false] at hq
    rcases hq with rfl | rfl
    · exact ⟨_, rfl, rfl⟩
    · exact ⟨.int x, rfl, x, rfl, ⟨by decide, trivial⟩, ev2⟩
  refine ab_all (W := da_W) (G := da_G L xs) (Q := da_Q L xs) (r0 := dd_r L z.toInt x.toInt) ae_rok_ok ae_fok_ok hL (fun c h => absurd h List.not_mem_nil) (by decide +kernel) (fun h h' q f j hj => (f 223 j rfl).trans ((q j hj).trans (f 4 j rfl).symm)) (ad_HOK0 rfl) (ad_cons (Or.inl ⟨4000, true, true, da_0_ok⟩) (ad_cons (Or.inr (da_mid hL)) (ad_cons (Or.inr ?_) ad_nil))) da_0 List.mem_cons_self (dd_r L z.toInt x.toInt) _ _ hA hB ⟨⟨fun q hq => ?_, fun f hf => absurd hf List.not_mem_nil, fun d hd => absurd hd List.not_mem_nil⟩, ⟨⟨by decide, by omega⟩, rfl⟩, ad_hp_new kM (fun m hm => ?_), ⟨⟨⟨by show 62 ≤ d; exact hd, rfl, rfl, lv 1, trivial⟩, trivial⟩, fun e => by cases e⟩, ⟨⟨⟨by show 62 ≤ d; exact hd, rfl, rfl, lv 219, trivial⟩, trivial⟩, fun e => by cases e⟩, aq_hs_of false kA, aq_hs_of true kB, mir, ⟨_, ri0, ae_fr_rf _ _ _ _, fun m hm => absurd hm List.not_mem_nil⟩⟩ (by decide) (fun _ _ => rfl)
  · exact ad_endT (a := (-1, [])) (b := (-1, [])) ae_fok_ok rfl (by decide) (fun ρ x y e1 e2 _ _ hm d1 d2 k1 k2 _ ri => ⟨k1, k2, ri, by
      rw [← aq_ciA k1.1.1 k2.1.1 (show Nat.blt 3 219 = true from rfl), ← aq_ciB k1.1.1 k2.1.1 (show Nat.blt 219 219 = false from rfl), ad_c0 hm (p := 3) (j := 8) (e := (0, [(1, 1)])) (by decide), ad_c0 hm (p := 219) (j := 8) (e := (0, [(1, 1)])) (by decide)], x, rfl, by rw [Int32.toInt_inj.mp (d1.symm.trans d2)]⟩)
  · have hq : q ∈ ([(1, 0, 900), (2, (-2147483648), 2147483647)] : ae_B) := hq
    simp only [List.mem_cons, List.not_mem_nil, or_false] at hq
    rcases hq with rfl | rfl
    · exact ⟨(by decide : 1 < 3), z3, z4⟩
    · exact ⟨(by decide : 2 < 3), fd_i32 x⟩
  · have hm : m ∈ ([(219, (8, []), (0, 0, (0, [(1, 1)])), false), (3, (8, []), (0, 0, (0, [(1, 1)])), false)] : List ae_M) := hm
    simp only [List.mem_cons, List.not_mem_nil, or_false] at hm
    rcases hm with rfl | rfl
    · exact aq_eo kM (j := 8) ⟨by decide, by decide, by decide⟩ rfl rfl rfl rfl (by rw [aq_ciB l1 l2 rfl, ← c, ev1, z2])
    · exact aq_eo kM (j := 8) ⟨by decide, by decide, by decide⟩ rfl rfl rfl rfl (by rw [aq_ciA l1 l2 rfl, ev1, z2])
end DCA

/-! yard(n), both: from the call to the answers -/
/-- an end: both have answered an int -/
theorem ad_endT (hf : ae_fok = true) {L : Nat} {xs : Nat → Int32} {r0 : Nat → Int} {W : ab_W} {G : List am_E → Prop} {Q : Option Value → Option Value → List am_E → List am_E → Prop} {t : ab_Tm} {k : ae_K} {M : List ae_M} {T : List ab_Ti} {a b : ae_X} (ht : t.st = (k, M, [], [], T, ([], some (0, 0, a)), ([], some (0, 0, b)))) (hM : (M.all fun m => !m.2.2.2) = true)
    (hQ : ∀ ρ (x y : Int32) e1 e2, (∀ s, s < W.r → ρ s = r0 s) → ae_okK ρ k → (∀ m ∈ M, ae_eo k.1 ρ L xs (am_mX2 ap_b false e1 e2) m) → ae_ev ρ a = x.toInt → ae_ev ρ b = y.toInt → ae_hk false L xs e1 → ae_hk false L xs e2 → G (am_mX2 ap_b false e1 e2) → ab_RI T (ab_cv L xs (am_mX2 ap_b false e1 e2)) → Q (some (.int x)) (some (.int y)) e1 e2) : ab_ok W G L xs Q r0 t := by
  intro ρ g1 g2 h1 h2 S _ sr
  rw [ht] at S
  obtain ⟨S1, S2, S4, S5, S6, S7, S8, S9, h0, r1, r2, r3⟩ := S
  have S4 : ae_hp false k.1 ρ L xs M (am_mX2 ap_b false h1 h2) := S4
  obtain ⟨f1, v1⟩ := g1
  obtain ⟨f2, v2⟩ := g2
  have kM := aq_hk_sat hf S4 (fun m hm => by simpa using List.all_eq_true.mp hM m hm)
  have kA := aq_own_hk false kM S7 S8.1.1
  have kB : ae_hk false L xs h2 := aq_own_hk true (by rw [ap_mX_not]; exact kM) S8 S7.1.1
  cases f1 with
  | cons _ _ => exact absurd S5.1 id
  | nil =>
    cases f2 with
    | cons _ _ => exact absurd S6.1 id
    | nil =>
      obtain ⟨w1, e1, x, hx, d1⟩ := S5.2 rfl
      obtain ⟨w2, e2, y, hy, d2⟩ := S6.2 rfl
      have e1 : v1 = some w1 := e1
      have e2 : v2 = some w2 := e2
      subst e1; subst e2; subst hx; subst hy
      exact ⟨_, h1, _, h2, rfl, rfl, ap_sm_rf, ap_sm_rf, ae_fr_rf _ _ _ _, hQ ρ x y h1 h2 sr S1 S4.2.1 d1.2 d2.2 kA kB S9 (ab_RI_eq (fun p j => ab_cv_fr r2 rfl) r1)⟩
theorem ad_end_mo {L : Nat} {xs : Nat → Int32} {Q Q' : Option Value → Option Value → List am_E → List am_E → Prop} {mo mo' : ae_Mo} {g1 g2 : ap_cT} {h1 h2 : List am_E} (hs : ae_sub2 mo mo' = true) (hq : ∀ v1 v2 e1 e2, ae_fr mo L xs (am_mX2 ap_b false h1 h2) (am_mX2 ap_b false e1 e2) → Q v1 v2 e1 e2 → Q' v1 v2 e1 e2) (q : ap_end mo L xs Q g1 g2 h1 h2) : ap_end mo' L xs Q' g1 g2 h1 h2 := by
  obtain ⟨v1, e1, v2, e2, q1, q2, q3, q4, q5, q6⟩ := q
  exact ⟨v1, e1, v2, e2, q1, q2, q3, q4, fun p j hp => q5 p j (ae_sub2_ok hs hp), hq _ _ _ _ q5 q6⟩
/-- no hooks -/
theorem ad_HOK0 {W : ab_W} {G : List am_E → Prop} {L : Nat} {xs : Nat → Int32} {Q : Option Value → Option Value → List am_E → List am_E → Prop} (h : W.hk = fun _ => none) : ab_HOK W G L xs Q := fun z o ρ g1 g2 h1 h2 q => by rw [h] at q; cases q
/-- whole loops alone -/
theorem ad_HOKm {W : ab_W} {G : List am_E → Prop} {L : Nat} {xs : Nat → Int32} {Q : Option Value → Option Value → List am_E → List am_E → Prop} (hL : L ≤ 3072) {ms : List (ae_Mc × List (Nat × Nat))} (h : W.hk = ad_hm ms) (hms : ∀ m ∈ ms, ae_MOK m.1 ∧ ad_mok W.mo m.1 = true ∧ ∀ h h', G h → ae_fr m.1.2.2.2.2.2.1 L xs h h' → G h') : ab_HOK W G L xs Q := fun z o ρ g1 g2 h1 h2 q S => by
  rw [h] at q
  exact ad_hm_ok ae_rok_ok ae_fok_ok hL hms q S
noncomputable def ay_Q (L : Nat) (xs : Nat → Int32) (v1 v2 : Option Value) (e1 e2 : List am_E) : Prop := ae_hk false L xs e1 ∧ ae_hk false L xs e2 ∧ ab_RI lw_T0 (ab_cv L xs (am_mX2 ap_b false e1 e2)) ∧ aq_ci L xs e1 3 8 = 0 ∧ ∃ x : Int32, v1 = some (.int x) ∧ v2 = some (.int x)
noncomputable def ya_Q (L : Nat) (xs : Nat → Int32) (v1 v2 : Option Value) (e1 e2 : List am_E) : Prop := ae_hk false L xs e1 ∧ ae_hk false L xs e2 ∧ ab_RI lw_T0 (ab_cv L xs (am_mX2 ap_b false e1 e2)) ∧ aq_ci L xs e1 3 8 = aq_ci L xs e2 219 8 ∧ ∃ x : Int32, v1 = some (.int x) ∧ v2 = some (.int x)
section AYY
variable {L : Nat} {xs : Nat → Int32} {r0 : Nat → Int}
theorem ad_c0 {n : Nat} {ρ : Nat → Int} {M : List ae_M} {h : List am_E} (H : ∀ m ∈ M, ae_eo n ρ L xs h m) {p j : Nat} {e : ae_X} (hm : (p, ae_num (j : Int), ((0, 0, e) : ae_V), false) ∈ M) : aq_ci L xs h p j = ae_ev ρ e := aq_ci_v (H _ hm) (ae_num_dn (n := 0) (ρ := ρ) (j : Int)).2
theorem ay_gfr : ac_gfr ay_mo := ⟨fun _ => rfl, fun _ => rfl, fun _ => rfl, fun _ => rfl, by decide, by decide⟩
/-- from the taken text on -/
theorem yc_every (hL : L ≤ 3072) : ∀ t ∈ yc_tms, ab_ok yc_W (nt_G L xs r0) L xs (ay_Q L xs) r0 t :=
  yc_all hL (bh_cons (P := fun t => ab_ok yc_W (nt_G L xs r0) L xs (ay_Q L xs) r0 t) (ad_endT (a := (0, [(1, 1)])) (b := (0, [(1, 1)])) ae_fok_ok rfl (by decide) (fun ρ x y e1 e2 _ _ hm d1 d2 k1 k2 _ ri => ⟨k1, k2, ri, by
      rw [← aq_ciA k1.1.1 k2.1.1 (show Nat.blt 3 219 = true from rfl)]
      exact ad_c0 hm (p := 3) (j := 8) (e := ae_num 0) (by decide), x, rfl, by rw [Int32.toInt_inj.mp (d1.symm.trans d2)]⟩)) bh_nil)
theorem ay_good (hL : L ≤ 3072) {G : List am_E → Prop} : ab_ok ay_W G L xs (ay_Q L xs) r0 ay_274 := by
  intro ρ g1 g2 h1 h2 S s1 s2
  obtain ⟨S1, S2, S4, S5, S6, S7, S8, S9, S10⟩ := S
  exact ad_end_mo (by decide +kernel) (fun _ _ _ _ _ q => q) (yc_every hL yc_t0 (List.mem_append_left _ List.mem_cons_self) ρ g1 g2 h1 h2 ⟨S1, S2, S4, S5, S6, S7, S8, trivial, S10⟩ s1 s2)
theorem ay_fail {G : List am_E → Prop} : ab_ok ay_W G L xs (ay_Q L xs) r0 ay_275 :=
  ad_endT (a := (-1, [])) (b := (-1, [])) ae_fok_ok rfl (by decide) (fun ρ x y e1 e2 _ _ hm d1 d2 k1 k2 _ ri => ⟨k1, k2, ri, by
      rw [← aq_ciA k1.1.1 k2.1.1 (show Nat.blt 3 219 = true from rfl)]
      exact ad_c0 hm (p := 3) (j := 8) (e := ae_num 0) (by decide), x, rfl, by rw [Int32.toInt_inj.mp (d1.symm.trans d2)]⟩)
theorem ay_all (hL : L ≤ 3072) {b : Nat → Option Value} {n T : Int} {P : Nat → Int} (hn : n ≤ 900) : ∀ t ∈ ay_W.tms, ab_ok ay_W (ac_G L xs b n T P) L xs (ay_Q L xs) r0 t :=
  ab_all ae_rok_ok ae_fok_ok hL ay_ct (by decide +kernel) (fun _ _ q f => ac_G_fr ay_gfr q f) (ac_HOK ae_rok_ok ae_fok_ok hL hn rfl (by decide +kernel) (by decide +kernel)) (ay_hT (ay_good hL) ay_fail)
noncomputable def ya_G (L : Nat) (xs : Nat → Int32) (h : List am_E) : Prop := ∀ j, j < 900 → ae_cell L xs h 223 j = ae_cell L xs h 4 j
noncomputable def ya_r (L : Nat) (kd : Int) : Nat → Int
  | 0 => (L : Int)
  | 1 => kd
  | _ => 1
theorem ad_hp_new {n : Nat} {ρ : Nat → Int} {h : List am_E} (k : ae_hk false L xs h) {M : List ae_M} (hM : ∀ m ∈ M, ae_eo n ρ L xs h m) : ae_hp false n ρ L xs M h := by
  have := ae_hp_add (A := M) (ae_hp_of (ρ := ρ) n k) hM
  rwa [List.append_nil] at this
/-- the tokens are cut, the first one is looked at -/
theorem ya_mid (hL : L ≤ 3072) : ab_ok ya_W (ya_G L xs) L xs (ya_Q L xs) r0 ya_1 := by
  intro ρ g1 g2 h1 h2 S _ _
  obtain ⟨S1, S2, S4, S5, S6, S7, S8, S9, h0, RI0, RF, -⟩ := S
  have l1 := S7.1.1
  have l2 := S8.1.1
  have kM := aq_hk_sat ae_fok_ok S4 (by decide)
  have kA := aq_own_hk false kM S7 l2
  have kB : ae_hk false L xs h2 := aq_own_hk true (by rw [ap_mX_not]; exact kM) S8 l1
  have K0 : ae_k0 ρ L ya_1.st.k := S2
  have hL0 : ρ 0 = (L : Int) := K0.2
  have bd : 0 ≤ ρ 1 ∧ ρ 1 ≤ 900 := aq_bd S1 (s := 1) (lo := 0) (hi := 900) (by decide)
  have ci : ∀ {p j : Nat} {e : ae_X}, (p, ae_num (j : Int), ((0, 0, e) : ae_V), false) ∈ ya_1.st.m → aq_ci L xs (am_mX2 ap_b false h1 h2) p j = ae_ev ρ e := fun hm => ad_c0 S4.2.1 hm
  have ev1 : ae_ev ρ (0, [(1, 1)]) = ρ 1 := by show (0 : Int) + (1 * ρ 1 + 0) = ρ 1; omega
  have A : ∀ {p j : Nat}, Nat.blt p 219 = true → aq_ci L xs (am_mX2 ap_b false h1 h2) p j = aq_ci L xs h1 p j := fun hp => aq_ciA l1 l2 hp
  have B : ∀ {p j : Nat}, Nat.blt p 219 = false → aq_ci L xs (am_mX2 ap_b false h1 h2) p j = aq_ci L xs h2 p j := fun hp => aq_ciB l1 l2 hp
  have b23 : ∀ j, j < 900 → ae_cell L xs h2 223 j = ae_cell L xs h1 4 j := fun j hj => by
    have := S9 j hj
    rw [ap_cx (s := false) l1 l2 rfl, ap_c (s := false) l1 l2 rfl] at this
    exact this
  obtain ⟨c1s, v1⟩ := g1
  obtain ⟨c2s, v2⟩ := g2
  match c1s, S5.1 with
  | [], F => exact absurd F id
  | [_], F => exact absurd F.2 id
  | [_, _], F => exact absurd F.2.2 id
  | _ :: _ :: _ :: _ :: _, F => exact absurd F.2.2.2 id
  | [(d0, y0, p0, lw0, sw0), (d1, y1, p1, lw1, sw1), (d3, y3, p3, lw3, sw3)], ⟨⟨q1, q2, q3, q4, q5⟩, ⟨⟨u1, u2, u3, u4, u5⟩, ⟨⟨w1, w2, w3, w4, w5⟩, _⟩⟩⟩ =>
  have q1 : 60 ≤ d0 := q1
  have q2 : 49 = y0 := q2
  have q3 : 40 = p0 := q3
  subst q2; subst q3
  have u1 : 61 ≤ d1 := u1
  have u2 : 118 = y1 := u2
  have u3 : 20 = p1 := u3
  subst u2; subst u3
  have w1 : 62 ≤ d3 := w1
  have w2 : 145 = y3 := w2
  have w3 : 29 = p3 := w3
  subst w2; subst w3
  have nil : ∀ {s : List Value}, ae_sr ya_1.st.k.1 ρ [] s → s = [] := fun {s} h => by
    cases s with
    | nil => rfl
    | cons _ _ => exact absurd h id
  obtain rfl := nil q5
  obtain rfl := nil u5
  obtain rfl := nil w5
  obtain ⟨x0, g0, o0⟩ := q4 (0, (2, 3, (0, []))) (by decide)
  obtain ⟨x2, g2', o2⟩ := q4 (2, (0, 0, (1, []))) (by decide)
  obtain ⟨x3, g3, o3⟩ := q4 (3, (0, 0, (0, []))) (by decide)
  have o0 : x0 = .ref 3 := o0
  subst o0
  obtain ⟨i2, rfl, e2⟩ := o2
  obtain ⟨i3, rfl, e3⟩ := o3
  have e2 : (1 : Int) + 0 = i2.toInt := e2.2
  have e3 : (0 : Int) + 0 = i3.toInt := e3.2
  -- the class's tokens
  obtain ⟨m, e, T, P, r1, r2, r3, r4x, r5, r6, r7⟩ := ac_loop (b := fun j => ae_cell L xs h1 4 j) (n := ρ 1) ae_rok_ok ae_fok_ok hL bd.2 ((ρ 1 - 0).toNat + 1) 0 0 (fun _ => 0) h1 d0 lw0 i2 i3 (by omega) (ae_hk_wk kA) (fun _ _ => rfl) (by rw [← A rfl, ci (p := 3) (j := 4) (e := (0, [])) (by decide)]; rfl) (by rw [← A rfl, ci (p := 3) (j := 6) (e := (0, [(1, 1)])) (by decide), ev1]) (by rw [← A rfl, ci (p := 3) (j := 7) (e := (0, [])) (by decide)]; rfl) (by rw [← A rfl, ci (p := 3) (j := 5) (e := (0, [])) (by decide)]; rfl) (Int.le_refl 0) (Int.le_refl 0) bd.1 rfl ⟨rfl, fun i hi => absurd hi (by omega)⟩ (fun i hi => absurd hi (by omega)) ⟨h2, ae_hk_wk kB, b23, by rw [← B rfl, ci (p := 219) (j := 9) (e := (0, [(1, 1)])) (by decide), ev1], by rw [← B rfl, ci (p := 219) (j := 16) (e := (0, [])) (by decide)]; rfl⟩ (by omega) g0 g2' (by omega) g3 (by omega)
  have r4 := ae_hk_bk ae_fok_ok kA r4x r3 (by decide)
  obtain ⟨t1, t2, t3, t4, ⟨t5, t6⟩, t7⟩ := id r5
  obtain ⟨n1, ⟨k0, k6⟩, vk⟩ := t6 0 (by omega)
  -- the reference's first token
  have nxt := fun d (hd : 20 ≤ d) => n1 h2 d (lv_args 0 [.ref 219]) (ae_hk_wk kB) b23 (by rw [← B rfl, ci (p := 219) (j := 9) (e := (0, [(1, 1)])) (by decide), ev1]) (by rw [← B rfl, ci (p := 219) (j := 16) (e := (0, [])) (by decide), t5]; rfl) hd rfl
  obtain ⟨m2, e', z1, z2x, z3, z4, z5, z6⟩ := nxt 20 (Nat.le_refl _)
  have z2 := ae_hk_bk ae_fok_ok kB z2x z4 (by decide)
  obtain ⟨g2n, tn, rn⟩ := ac_ret (f := (61, 250, 44, [(0, (2, 219, (0, []))), (1, (0, 0, (0, [(1, 1)]))), (2, (0, 0, (900, [])))], [(2, 219, (0, []))])) (s := []) (r := [(62, 261, 18, [(0, (2, 219, (0, []))), (1, (0, 0, (0, [(1, 1)])))], [])]) (a0 := (2, 219, (0, []))) (t := ya_1.st.t2) (a := 219) (p := 219) (own := 12) (dn := 20) rfl rfl (by decide +kernel) (by decide) (by decide) (by decide) (by decide) (by decide) (by decide +kernel) (by decide +kernel) (by decide +kernel) S8.1 S6 (fun d hd => ⟨m2, am_go_deep z1 hd⟩)
  have le1 := r4.1.1
  have le2 := z2.1.1
  have kM' := aq_mixhk r4 z2
  have A' : ∀ {p j : Nat}, Nat.blt p 219 = true → aq_ci L xs (am_mX2 ap_b false e e') p j = aq_ci L xs e p j := fun hp => aq_ciA le1 le2 hp
  have B' : ∀ {p j : Nat}, Nat.blt p 219 = false → aq_ci L xs (am_mX2 ap_b false e e') p j = aq_ci L xs e' p j := fun hp => aq_ciB le1 le2 hp
  have frm : ae_fr (ac_bmo ++ [(219, 14, 19)]) L xs (am_mX2 ap_b false h1 h2) (am_mX2 ap_b false e e') := by
    intro p j hp
    have hp' : (ac_bmo.any fun r => Nat.beq r.1 p && ae_le r.2.1 (j : Int) && ae_le (j : Int) r.2.2) = false ∧ ([((219, 14, 19) : Nat × Int × Int)].any fun r => Nat.beq r.1 p && ae_le r.2.1 (j : Int) && ae_le (j : Int) r.2.2) = false := by
      have hp : ((ac_bmo ++ [((219, 14, 19) : Nat × Int × Int)]).any fun r => Nat.beq r.1 p && ae_le r.2.1 (j : Int) && ae_le (j : Int) r.2.2) = false := hp
      rw [List.any_append, Bool.or_eq_false_iff] at hp
      exact hp
    cases hs : am_sd ap_b false p with
    | true =>
      rw [ap_c (s := false) le1 le2 hs, ap_c (s := false) l1 l2 hs]
      exact r3 p j hp'.1
    | false =>
      rw [ap_cx (s := false) le1 le2 hs, ap_cx (s := false) l1 l2 hs]
      exact z4 p j hp'.2
  have keep : ∀ {p j : Nat}, ae_inm (ac_bmo ++ [(219, 14, 19)]) p j = false → aq_ci L xs (am_mX2 ap_b false e e') p j = aq_ci L xs (am_mX2 ap_b false h1 h2) p j := fun hp => aq_ci_fr frm hp
  -- what is known then
  have GG : ac_G L xs (fun j => ae_cell L xs h1 4 j) (ρ 1) T P (am_mX2 ap_b false e e') := by
    refine ⟨fun j hj => ?_, ?_, ac_lex_eq (A' rfl) (A' rfl) (fun j => A' rfl) (fun j => A' rfl) (fun j => aq_cjA le1 le2 rfl) r5, 0, by omega, by rw [A' rfl, r6]; rfl, by rw [B' rfl]; exact z5, ?_, ?_⟩
    · rw [frm 223 j rfl, ap_cx (s := false) l1 l2 rfl]; exact b23 j hj
    · rw [keep (p := 219) (j := 9) (by decide), ci (p := 219) (j := 9) (e := (0, [(1, 1)])) (by decide), ev1]
    · unfold ac_cur at r7 ⊢
      rw [A' rfl, A' rfl, A' rfl, A' rfl, A' rfl, aq_cjA le1 le2 rfl, A' rfl, A' rfl, aq_cjA le1 le2 rfl]
      exact r7
    · unfold aq_tokh at z6 ⊢
      rw [B' (p := 219) (j := 14) rfl, B' (p := 219) (j := 15) rfl, B' (p := 219) (j := 17) rfl, B' (p := 219) (j := 18) rfl, aq_cjB (p := 219) (j := 19) le1 le2 rfl, A' (p := 5) (j := 0) rfl, A' (p := 6) (j := 0) rfl, aq_cjA (p := 7) (j := 0) le1 le2 rfl]
      exact z6
  have evk : ∀ {c : Int}, ae_ev (ya_r L (aq_ci L xs e 5 0)) (c, []) = c := fun {c} => by show c + 0 = c; omega
  have start := ay_all (r0 := ya_r L (aq_ci L xs e 5 0)) hL bd.2 ay_0 List.mem_cons_self (ya_r L (aq_ci L xs e 5 0)) ([(d1, 118, 20, lw1, []), (d3, 145, 29, lw3, [])], v1) g2n e e' ⟨⟨fun q hq => ?_, fun f hf => absurd hf List.not_mem_nil, fun d hd => absurd hd List.not_mem_nil⟩, ⟨⟨by decide, by omega⟩, rfl⟩, ad_hp_new kM' (fun m hm => ?_), ⟨⟨⟨by show 60 ≤ d1; omega, rfl, rfl, ?_, trivial⟩, ⟨⟨by show 61 ≤ d3; omega, rfl, rfl, ?_, trivial⟩, trivial⟩⟩, fun e => by cases e⟩, ?_, aq_hs_of false r4, aq_hs_of true z2, GG, ⟨_, lw_T_fr (mo := ac_bmo ++ [(219, 14, 19)]) (by decide +kernel) frm (ab_RI_eq (fun p j => ab_cv_fr RF rfl) RI0), ae_fr_rf _ _ _ _, fun m hm => absurd hm List.not_mem_nil⟩⟩ (by decide) (fun _ _ => rfl)
  · -- the whole
    obtain ⟨a1, f1, a2, f2, y1, y2, y3, y4, y5, y6⟩ := start
    refine ⟨a1, f1, a2, f2, ?_, rn _ y2, ap_sm_tr r2 y3, ap_sm_tr z3 y4, ae_fr_tr (fun p j hp => frm p j (ae_sub2_ok (b := ya_mo2) (by decide +kernel) hp)) (fun p j hp => y5 p j (ae_sub2_ok (b := ya_mo2) (by decide +kernel) hp)), ?_⟩
    · exact ⟨m, none, e, r1, y1⟩
    · obtain ⟨k1, k2, ri1, s1, x, x1, x2⟩ := y6
      refine ⟨k1, k2, ri1, ?_, x, x1, x2⟩
      have h8 : aq_ci L xs (am_mX2 ap_b false f1 f2) 219 8 = aq_ci L xs (am_mX2 ap_b false e e') 219 8 := aq_ci_fr y5 (by decide +kernel)
      rw [aq_ciB k1.1.1 k2.1.1 rfl, keep (p := 219) (j := 8) (by decide), ci (p := 219) (j := 8) (e := (0, [])) (by decide)] at h8
      rw [s1, h8]; rfl
  · have hq : q ∈ ([(1, 0, 6), (2, 1, 1)] : ae_B) := hq
    simp only [List.mem_cons, List.not_mem_nil, or_false] at hq
    rcases hq with rfl | rfl
    · exact ⟨(by decide : 1 < 3), k0, k6⟩
    · exact ⟨(by decide : 2 < 3), Int.le_refl 1, Int.le_refl 1⟩
  · have hm : m ∈ ([(219, (12, []), (0, 0, (0, [])), false), (3, (11, []), (0, 0, (0, [(1, 1)])), false), (3, (5, []), (0, 0, (0, [(2, 1)])), false), (40, (2, []), (0, 0, (0, [])), false), (41, (10, []), (0, 0, (1, [])), false), (41, (11, []), (0, 0, (0, [])), false), (41, (12, []), (0, 0, (0, [])), false), (41, (13, []), (0, 0, ((-1), [])), false), (41, (14, []), (0, 0, (0, [])), false), (41, (15, []), (0, 0, (0, [])), false), (41, (16, []), (0, 0, (0, [])), false), (41, (17, []), (0, 0, (0, [])), false), (41, (5, []), (0, 0, (0, [])), false), (41, (6, []), (0, 0, (0, [])), false), (41, (7, []), (0, 0, (0, [])), false), (41, (8, []), (0, 0, (0, [])), false), (41, (9, []), (0, 0, (1, [])), false)] : List ae_M) := hm
    simp only [List.mem_cons, List.not_mem_nil, or_false] at hm
    rcases hm with rfl | rfl | rfl | rfl | rfl | rfl | rfl | rfl | rfl | rfl | rfl | rfl | rfl | rfl | rfl | rfl | rfl
    · exact aq_eo kM' (j := 12) ⟨by decide, by decide, by decide⟩ rfl rfl rfl rfl (by rw [keep (p := 219) (j := 12) (by decide), ci (p := 219) (j := 12) (e := (0, [])) (by decide)]; rfl)
    · exact aq_eo kM' (j := 11) ⟨by decide, by decide, by decide⟩ rfl rfl rfl rfl (by rw [A' rfl, r7.1]; show (0 : Int) + (1 * aq_ci L xs e 5 0 + 0) = _; omega)
    · exact aq_eo kM' (j := 5) ⟨by decide, by decide, by decide⟩ rfl rfl rfl rfl (by rw [A' rfl, r6]; rfl)
    · exact aq_eo kM' (j := 2) ⟨by decide, by decide, by decide⟩ rfl rfl rfl rfl (by rw [keep (p := 40) (j := 2) (by decide), ci (p := 40) (j := 2) (e := (0, [])) (by decide)]; rfl)
    · exact aq_eo kM' (j := 10) ⟨by decide, by decide, by decide⟩ rfl rfl rfl rfl (by rw [keep (p := 41) (j := 10) (by decide), ci (p := 41) (j := 10) (e := (1, [])) (by decide)]; rfl)
    · exact aq_eo kM' (j := 11) ⟨by decide, by decide, by decide⟩ rfl rfl rfl rfl (by rw [keep (p := 41) (j := 11) (by decide), ci (p := 41) (j := 11) (e := (0, [])) (by decide)]; rfl)
    · exact aq_eo kM' (j := 12) ⟨by decide, by decide, by decide⟩ rfl rfl rfl rfl (by rw [keep (p := 41) (j := 12) (by decide), ci (p := 41) (j := 12) (e := (0, [])) (by decide)]; rfl)
    · exact aq_eo kM' (j := 13) ⟨by decide, by decide, by decide⟩ rfl rfl rfl rfl (by rw [keep (p := 41) (j := 13) (by decide), ci (p := 41) (j := 13) (e := ((-1), [])) (by decide)]; rfl)
    · exact aq_eo kM' (j := 14) ⟨by decide, by decide, by decide⟩ rfl rfl rfl rfl (by rw [keep (p := 41) (j := 14) (by decide), ci (p := 41) (j := 14) (e := (0, [])) (by decide)]; rfl)
    · exact aq_eo kM' (j := 15) ⟨by decide, by decide, by decide⟩ rfl rfl rfl rfl (by rw [keep (p := 41) (j := 15) (by decide), ci (p := 41) (j := 15) (e := (0, [])) (by decide)]; rfl)
    · exact aq_eo kM' (j := 16) ⟨by decide, by decide, by decide⟩ rfl rfl rfl rfl (by rw [keep (p := 41) (j := 16) (by decide), ci (p := 41) (j := 16) (e := (0, [])) (by decide)]; rfl)
    · exact aq_eo kM' (j := 17) ⟨by decide, by decide, by decide⟩ rfl rfl rfl rfl (by rw [keep (p := 41) (j := 17) (by decide), ci (p := 41) (j := 17) (e := (0, [])) (by decide)]; rfl)
    · exact aq_eo kM' (j := 5) ⟨by decide, by decide, by decide⟩ rfl rfl rfl rfl (by rw [keep (p := 41) (j := 5) (by decide), ci (p := 41) (j := 5) (e := (0, [])) (by decide)]; rfl)
    · exact aq_eo kM' (j := 6) ⟨by decide, by decide, by decide⟩ rfl rfl rfl rfl (by rw [keep (p := 41) (j := 6) (by decide), ci (p := 41) (j := 6) (e := (0, [])) (by decide)]; rfl)
    · exact aq_eo kM' (j := 7) ⟨by decide, by decide, by decide⟩ rfl rfl rfl rfl (by rw [keep (p := 41) (j := 7) (by decide), ci (p := 41) (j := 7) (e := (0, [])) (by decide)]; rfl)
    · exact aq_eo kM' (j := 8) ⟨by decide, by decide, by decide⟩ rfl rfl rfl rfl (by rw [keep (p := 41) (j := 8) (by decide), ci (p := 41) (j := 8) (e := (0, [])) (by decide)]; rfl)
    · exact aq_eo kM' (j := 9) ⟨by decide, by decide, by decide⟩ rfl rfl rfl rfl (by rw [keep (p := 41) (j := 9) (by decide), ci (p := 41) (j := 9) (e := (1, [])) (by decide)]; rfl)
  · intro p hp
    rw [List.mem_singleton.mp hp]
    obtain ⟨v, v1, v2⟩ := u4 (0, (2, 40, (0, []))) (by decide)
    exact ⟨v, v1, v2⟩
  · intro p hp
    rw [List.mem_singleton.mp hp]
    obtain ⟨v, v1, v2⟩ := w4 (0, (2, 1, (0, []))) (by decide)
    exact ⟨v, v1, v2⟩
  · -- the reference's frames
    obtain ⟨gf, gv⟩ := g2n
    match gf, tn.1 with
    | [], F => exact absurd F id
    | [_], F => exact absurd F.2 id
    | _ :: _ :: _ :: _, F => exact absurd F.2.2 id
    | [a, c], ⟨⟨a1, a2, a3, a4, a5⟩, ⟨⟨c1, c2, c3, c4, c5⟩, _⟩⟩ =>
      refine ⟨⟨⟨?_, a2, a3, fun p hp => ?_, ?_⟩, ⟨⟨?_, c2, c3, fun p hp => ?_, ?_⟩, trivial⟩⟩, fun e => by cases e⟩
      · have a1 : 61 ≤ a.1 := a1
        show 60 ≤ a.1
        omega
      · rw [List.mem_singleton.mp hp]
        obtain ⟨v, v1, v2⟩ := a4 (0, (2, 219, (0, []))) (by decide)
        exact ⟨v, v1, v2⟩
      · have e := nil a5
        show ae_sr _ _ [] a.2.2.2.2
        rw [e]; trivial
      · have c1 : 62 ≤ c.1 := c1
        show 61 ≤ c.1
        omega
      · rw [List.mem_singleton.mp hp]
        obtain ⟨v, v1, v2⟩ := c4 (0, (2, 219, (0, []))) (by decide)
        exact ⟨v, v1, v2⟩
      · have e := nil c5
        show ae_sr _ _ [] c.2.2.2.2
        rw [e]; trivial
end AYY

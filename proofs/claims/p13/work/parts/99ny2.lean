/-! What the class's days(n) keeps of the days told, 2 -/
noncomputable def nt2_r (L : Nat) (q a : Nat) (c1 c2 s : Int) (i : Nat) : Int := match i with
  | 0 => (L : Int)
  | 1 => (q : Int)
  | 2 => (a : Int)
  | 3 => c1
  | 4 => c2
  | _ => s
noncomputable def nt2_Q (L : Nat) (xs : Nat → Int32) (q a : Nat) (_ : Option Value) (_ : Option Value) (e e2 : List am_E) : Prop := ae_hk false L xs e ∧ ae_hk false L xs e2 ∧ ((a : Int) < ab_cv L xs e 34 5 → (a : Int) < ab_cv L xs e 39 q → ab_cv L xs e 39 a ≤ ab_cv L xs e 39 q)
theorem nt2_end0 {L : Nat} {xs : Nat → Int32} {q a : Nat} {c1 c2 s : Int} (H : ((a : Int) < s → (a : Int) < c1 → c2 ≤ c1)) : ab_ok nt2_W (nt_G L xs (nt2_r L q a c1 c2 s)) L xs (nt2_Q L xs q a) (nt2_r L q a c1 c2 s) nt2_e0 :=
  ad_endT (a := ((-1), [])) (b := (0, [])) ae_fok_ok rfl (by decide +kernel) (fun ρ x y e1 e2 sr K hm d1 d2 k1 k2 _ _ => by
    have r1 : ρ 1 = (q : Int) := sr 1 (by show 1 < 6; decide)
    have r2 : ρ 2 = (a : Int) := sr 2 (by show 2 < 6; decide)
    have u1 : ρ 3 = c1 := sr 3 (by show 3 < 6; decide)
    have u2 : ρ 4 = c2 := sr 4 (by show 4 < 6; decide)
    have us : ρ 5 = s := sr 5 (by show 5 < 6; decide)
    have e0 := cp_eo hm (p := 34) (i := ae_num 5) (x := ae_sym 5) (by decide +kernel) (j := 5) rfl
    rw [cp_cv k1 k2 rfl, cp_sym] at e0
    have e1 := cp_eo hm (p := 39) (i := ae_sym 1) (x := ae_sym 3) (by decide +kernel) (j := q) (by rw [cp_sym, r1])
    rw [cp_cv k1 k2 rfl, cp_sym] at e1
    have e2 := cp_eo hm (p := 39) (i := ae_sym 2) (x := ae_sym 4) (by decide +kernel) (j := a) (by rw [cp_sym, r2])
    rw [cp_cv k1 k2 rfl, cp_sym] at e2
    have f0 : (1 : Int) + (1 * ρ 1 + ((-1) * ρ 2 + 0)) ≤ 0 := (K.2.1 _ List.mem_cons_self).2
    refine ⟨k1, k2, ?_⟩
    intro h1 h2
    have := H (by omega) (by omega)
    omega)
theorem nt2_end1 {L : Nat} {xs : Nat → Int32} {q a : Nat} {c1 c2 s : Int} (H : ((a : Int) < s → (a : Int) < c1 → c2 ≤ c1)) : ab_ok nt2_W (nt_G L xs (nt2_r L q a c1 c2 s)) L xs (nt2_Q L xs q a) (nt2_r L q a c1 c2 s) nt2_e1 :=
  ad_endT (a := (0, [(6, 1)])) (b := (0, [])) ae_fok_ok rfl (by decide +kernel) (fun ρ x y e1 e2 sr K hm d1 d2 k1 k2 _ _ => by
    have r1 : ρ 1 = (q : Int) := sr 1 (by show 1 < 6; decide)
    have r2 : ρ 2 = (a : Int) := sr 2 (by show 2 < 6; decide)
    have u1 : ρ 3 = c1 := sr 3 (by show 3 < 6; decide)
    have u2 : ρ 4 = c2 := sr 4 (by show 4 < 6; decide)
    have us : ρ 5 = s := sr 5 (by show 5 < 6; decide)
    have e0 := cp_eo hm (p := 34) (i := ae_num 5) (x := ae_sym 6) (by decide +kernel) (j := 5) rfl
    rw [cp_cv k1 k2 rfl, cp_sym] at e0
    have f0 : (1 : Int) + (1 * ρ 1 + ((-1) * ρ 2 + 0)) ≤ 0 := (K.2.1 _ List.mem_cons_self).2
    have f1 : (1 : Int) + ((-1) * ρ 2 + (1 * ρ 6 + 0)) ≤ 0 := (K.2.1 _ (List.mem_cons_of_mem _ List.mem_cons_self)).2
    refine ⟨k1, k2, ?_⟩
    intro h1 h2
    omega)
theorem nt2_end2 {L : Nat} {xs : Nat → Int32} {q a : Nat} {c1 c2 s : Int} (H : ((a : Int) < s → (a : Int) < c1 → c2 ≤ c1)) : ab_ok nt2_W (nt_G L xs (nt2_r L q a c1 c2 s)) L xs (nt2_Q L xs q a) (nt2_r L q a c1 c2 s) nt2_e2 :=
  ad_endT (a := (0, [(6, 1)])) (b := (0, [])) ae_fok_ok rfl (by decide +kernel) (fun ρ x y e1 e2 sr K hm d1 d2 k1 k2 _ _ => by
    have r1 : ρ 1 = (q : Int) := sr 1 (by show 1 < 6; decide)
    have r2 : ρ 2 = (a : Int) := sr 2 (by show 2 < 6; decide)
    have u1 : ρ 3 = c1 := sr 3 (by show 3 < 6; decide)
    have u2 : ρ 4 = c2 := sr 4 (by show 4 < 6; decide)
    have us : ρ 5 = s := sr 5 (by show 5 < 6; decide)
    have e0 := cp_eo hm (p := 34) (i := ae_num 5) (x := ae_sym 6) (by decide +kernel) (j := 5) rfl
    rw [cp_cv k1 k2 rfl, cp_sym] at e0
    have e1 := cp_eo hm (p := 39) (i := ae_sym 1) (x := ae_sym 7) (by decide +kernel) (j := q) (by rw [cp_sym, r1])
    rw [cp_cv k1 k2 rfl, cp_sym] at e1
    have f0 : (1 : Int) + (1 * ρ 1 + ((-1) * ρ 2 + 0)) ≤ 0 := (K.2.1 _ List.mem_cons_self).2
    have f1 : (0 : Int) + ((-1) * ρ 2 + (1 * ρ 6 + 0)) ≤ 0 := (K.2.1 _ (List.mem_cons_of_mem _ List.mem_cons_self)).2
    refine ⟨k1, k2, ?_⟩
    intro h1 h2
    omega)
theorem nt2_end3 {L : Nat} {xs : Nat → Int32} {q a : Nat} {c1 c2 s : Int} (H : ((a : Int) < s → (a : Int) < c1 → c2 ≤ c1)) : ab_ok nt2_W (nt_G L xs (nt2_r L q a c1 c2 s)) L xs (nt2_Q L xs q a) (nt2_r L q a c1 c2 s) nt2_e3 :=
  ad_endT (a := (0, [(6, 1)])) (b := (0, [])) ae_fok_ok rfl (by decide +kernel) (fun ρ x y e1 e2 sr K hm d1 d2 k1 k2 _ _ => by
    have r1 : ρ 1 = (q : Int) := sr 1 (by show 1 < 6; decide)
    have r2 : ρ 2 = (a : Int) := sr 2 (by show 2 < 6; decide)
    have u1 : ρ 3 = c1 := sr 3 (by show 3 < 6; decide)
    have u2 : ρ 4 = c2 := sr 4 (by show 4 < 6; decide)
    have us : ρ 5 = s := sr 5 (by show 5 < 6; decide)
    have e0 := cp_eo hm (p := 34) (i := ae_num 5) (x := ae_sym 6) (by decide +kernel) (j := 5) rfl
    rw [cp_cv k1 k2 rfl, cp_sym] at e0
    have e1 := cp_eo hm (p := 39) (i := ae_sym 1) (x := ae_sym 7) (by decide +kernel) (j := q) (by rw [cp_sym, r1])
    rw [cp_cv k1 k2 rfl, cp_sym] at e1
    have e2 := cp_eo hm (p := 39) (i := ae_sym 2) (x := ae_sym 8) (by decide +kernel) (j := a) (by rw [cp_sym, r2])
    rw [cp_cv k1 k2 rfl, cp_sym] at e2
    have f0 : (1 : Int) + (1 * ρ 1 + ((-1) * ρ 2 + 0)) ≤ 0 := (K.2.1 _ List.mem_cons_self).2
    have f1 : (0 : Int) + ((-1) * ρ 2 + (1 * ρ 7 + 0)) ≤ 0 := (K.2.1 _ (List.mem_cons_of_mem _ List.mem_cons_self)).2
    refine ⟨k1, k2, ?_⟩
    intro h1 h2
    omega)
theorem nt2_end4 {L : Nat} {xs : Nat → Int32} {q a : Nat} {c1 c2 s : Int} (H : ((a : Int) < s → (a : Int) < c1 → c2 ≤ c1)) : ab_ok nt2_W (nt_G L xs (nt2_r L q a c1 c2 s)) L xs (nt2_Q L xs q a) (nt2_r L q a c1 c2 s) nt2_e4 :=
  ad_endT (a := (0, [(6, 1)])) (b := (0, [])) ae_fok_ok rfl (by decide +kernel) (fun ρ x y e1 e2 sr K hm d1 d2 k1 k2 _ _ => by
    have r1 : ρ 1 = (q : Int) := sr 1 (by show 1 < 6; decide)
    have r2 : ρ 2 = (a : Int) := sr 2 (by show 2 < 6; decide)
    have u1 : ρ 3 = c1 := sr 3 (by show 3 < 6; decide)
    have u2 : ρ 4 = c2 := sr 4 (by show 4 < 6; decide)
    have us : ρ 5 = s := sr 5 (by show 5 < 6; decide)
    have e0 := cp_eo hm (p := 34) (i := ae_num 5) (x := ae_sym 6) (by decide +kernel) (j := 5) rfl
    rw [cp_cv k1 k2 rfl, cp_sym] at e0
    have e1 := cp_eo hm (p := 39) (i := ae_sym 1) (x := ae_sym 7) (by decide +kernel) (j := q) (by rw [cp_sym, r1])
    rw [cp_cv k1 k2 rfl, cp_sym] at e1
    have e2 := cp_eo hm (p := 39) (i := ae_sym 2) (x := ae_sym 8) (by decide +kernel) (j := a) (by rw [cp_sym, r2])
    rw [cp_cv k1 k2 rfl, cp_sym] at e2
    have f0 : (1 : Int) + (1 * ρ 1 + ((-1) * ρ 2 + 0)) ≤ 0 := (K.2.1 _ List.mem_cons_self).2
    have f1 : (0 : Int) + ((-1) * ρ 7 + (1 * ρ 8 + 0)) ≤ 0 := (K.2.1 _ (List.mem_cons_of_mem _ List.mem_cons_self)).2
    refine ⟨k1, k2, ?_⟩
    intro h1 h2
    omega)
theorem nt2_run {L : Nat} {xs : Nat → Int32} (hL : L ≤ 3072) {q a : Nat} (l0 : q < a) (lz : a < 30) {hA : List am_E} (kA : ae_hk false L xs hA) (H : ((a : Int) < ab_cv L xs hA 34 5 → (a : Int) < ab_cv L xs hA 39 q → ab_cv L xs hA 39 a ≤ ab_cv L xs hA 39 q)) {x : Int32} {d n : Nat} {v : Option Value} {e : List am_E} (hd : 70 ≤ d) (hrun : am_go L xs n d 146 0 (lv_args 0 [.ref 1, .int x]) [] hA = some (v, e)) : ((a : Int) < ab_cv L xs e 34 5 → (a : Int) < ab_cv L xs e 39 q → ab_cv L xs e 39 a ≤ ab_cv L xs e 39 q) ∧ ∀ p j, Nat.blt p 219 = true → ae_inm nt2_mo p j = false → ae_cell L xs e p j = ae_cell L xs hA p j := by
  have kM : ae_hk false L xs (am_mX2 ap_b false hA hA) := by rw [show am_mX2 ap_b false hA hA = hA from am_mix_self ap_b hA]; exact kA
  have ob : ∀ j, j < 30 → 0 < 39 ∧ 39 ≤ ae_np ∧ j < (ae_sh 39).2.2 := fun j hj => ⟨by decide, by decide, by show j < 30; exact hj⟩
  have iv : ∀ j, j < 30 → (ae_iv 39 j).1 = 0 := fun j hj => (by decide +kernel : ∀ j < 30, (ae_iv 39 j).1 = 0) j hj
  obtain ⟨x0, xa0, xb0, -⟩ := cp_int kA (ob q (by omega)) (iv q (by omega))
  obtain ⟨x1, xa1, xb1, -⟩ := cp_int kA (ob a (by omega)) (iv a (by omega))
  obtain ⟨xs0, xsa, xsb, xsc, xsd⟩ := cp_int kA (p := 34) (j := 5) ⟨by decide, by decide, by decide⟩ rfl
  have xsc : (0 : Int) ≤ xs0.toInt := xsc
  have xsd : xs0.toInt ≤ 30 := xsd
  generalize hc1 : ab_cv L xs hA 39 q = c1 at H xb0
  generalize hc2 : ab_cv L xs hA 39 a = c2 at H xb1
  generalize hs : ab_cv L xs hA 34 5 = s at H xsb
  have rho : ∃ ρ : Nat → Int, (∀ s', s' < 6 → ρ s' = nt2_r L q a c1 c2 s s') ∧ ρ 6 = x.toInt := ⟨fun i => bif Nat.beq i 6 then x.toInt else nt2_r L q a c1 c2 s i, fun s' hs' => by
    show (bif Nat.beq s' 6 then x.toInt else nt2_r L q a c1 c2 s s') = _
    rw [show Nat.beq s' 6 = false from by
      cases h : Nat.beq s' 6 with
      | false => rfl
      | true => have := Nat.eq_of_beq_eq_true h; omega]
    rfl, rfl⟩
  obtain ⟨ρ, ra, rx⟩ := rho
  have start := nt2_all hL (Q := nt2_Q L xs q a) (r0 := (nt2_r L q a c1 c2 s)) (bh_cons (P := fun t => ab_ok nt2_W (nt_G L xs (nt2_r L q a c1 c2 s)) L xs (nt2_Q L xs q a) (nt2_r L q a c1 c2 s) t) (nt2_end0 H) (bh_cons (P := fun t => ab_ok nt2_W (nt_G L xs (nt2_r L q a c1 c2 s)) L xs (nt2_Q L xs q a) (nt2_r L q a c1 c2 s) t) (nt2_end1 H) (bh_cons (P := fun t => ab_ok nt2_W (nt_G L xs (nt2_r L q a c1 c2 s)) L xs (nt2_Q L xs q a) (nt2_r L q a c1 c2 s) t) (nt2_end2 H) (bh_cons (P := fun t => ab_ok nt2_W (nt_G L xs (nt2_r L q a c1 c2 s)) L xs (nt2_Q L xs q a) (nt2_r L q a c1 c2 s) t) (nt2_end3 H) (bh_cons (P := fun t => ab_ok nt2_W (nt_G L xs (nt2_r L q a c1 c2 s)) L xs (nt2_Q L xs q a) (nt2_r L q a c1 c2 s) t) (nt2_end4 H) bh_nil))))) nt2_t0 (List.mem_append_left _ List.mem_cons_self) ρ ([(d, 146, 0, lv_args 0 [.ref 1, .int x], [])], none) ([], some (.int 0)) hA hA ⟨⟨fun q hq => ?_, fun f hf => ?_, fun d hd => absurd hd List.not_mem_nil⟩, ⟨⟨by decide, by omega⟩, ra 0 (by decide)⟩, ad_hp_new kM (fun m hm => ?_), ⟨⟨⟨by show 70 ≤ d; omega, rfl, rfl, fun p hp => ?_, trivial⟩, trivial⟩, fun e => by cases e⟩, ⟨trivial, fun _ => ⟨.int 0, rfl, 0, rfl, ae_num_dn 0⟩⟩, aq_hs_of false kA, aq_hs_of true kA, trivial, ⟨_, fun t ht => absurd ht List.not_mem_nil, ae_fr_rf _ _ _ _, fun m hm => absurd hm List.not_mem_nil⟩⟩ (by show 6 ≤ 7; decide) (fun s hs => ra s hs)
  · obtain ⟨v1, e1, v2, e2, ⟨n1, g1⟩, -, -, -, fr, X1, X2, X⟩ := start
    have q := am_det g1 hrun
    injection q with q1 q2
    subst q1; subst q2
    refine ⟨X, fun p j hp hi => ?_⟩
    have fr := fr p j hi
    rwa [ap_c (s := false) X1.1.1 X2.1.1 hp, ap_c (s := false) kA.1.1 kA.1.1 hp] at fr
  · have hq : q ∈ ([(1, 0, 29), (2, 0, 29), (3, (-2147483648), 2147483647), (4, (-2147483648), 2147483647), (5, 0, 30), (6, (-2147483648), 2147483647)] : ae_B) := hq
    simp only [List.mem_cons, List.not_mem_nil, or_false] at hq
    rcases hq with rfl | rfl | rfl | rfl | rfl | rfl
    · exact ⟨(by decide : 1 < 7), by rw [ra 1 (by decide)]; show (0 : Int) ≤ (q : Int); omega, by rw [ra 1 (by decide)]; show (q : Int) ≤ 29; omega⟩
    · exact ⟨(by decide : 2 < 7), by rw [ra 2 (by decide)]; show (0 : Int) ≤ (a : Int); omega, by rw [ra 2 (by decide)]; show (a : Int) ≤ 29; omega⟩
    · have := fd_i32 x0
      exact ⟨(by decide : 3 < 7), by rw [ra 3 (by decide)]; show (-2147483648 : Int) ≤ c1; omega, by rw [ra 3 (by decide)]; show c1 ≤ 2147483647; omega⟩
    · have := fd_i32 x1
      exact ⟨(by decide : 4 < 7), by rw [ra 4 (by decide)]; show (-2147483648 : Int) ≤ c2; omega, by rw [ra 4 (by decide)]; show c2 ≤ 2147483647; omega⟩
    · exact ⟨(by decide : 5 < 7), by rw [ra 5 (by decide)]; show (0 : Int) ≤ s; omega, by rw [ra 5 (by decide)]; show s ≤ 30; omega⟩
    · have := fd_i32 x
      exact ⟨(by decide : 6 < 7), by rw [rx]; show (-2147483648 : Int) ≤ x.toInt; omega, by rw [rx]; show x.toInt ≤ 2147483647; omega⟩
  · have hf : f ∈ ([(1, [(1, 1), (2, (-1))])] : List ae_X) := hf
    simp only [List.mem_cons, List.not_mem_nil, or_false] at hf
    rcases hf with rfl
    · refine ⟨⟨by decide, by decide, trivial⟩, ?_⟩
      show (1 : Int) + (1 * ρ 1 + ((-1) * ρ 2 + 0)) ≤ 0
      rw [ra 1 (by decide), ra 2 (by decide)]
      show (1 : Int) + (1 * (q : Int) + ((-1) * (a : Int) + 0)) ≤ 0
      omega
  · have hm : m ∈ ([(34, (5, []), (0, 0, (0, [(5, 1)])), false), (39, (0, [(1, 1)]), (0, 0, (0, [(3, 1)])), false), (39, (0, [(2, 1)]), (0, 0, (0, [(4, 1)])), false)] : List ae_M) := hm
    simp only [List.mem_cons, List.not_mem_nil, or_false] at hm
    rcases hm with rfl | rfl | rfl
    all_goals rw [show am_mX2 ap_b false hA hA = hA from am_mix_self ap_b hA]
    · exact cp_ent kA (j := 5) ⟨by decide, by decide, by decide⟩ rfl (ae_num_dn _) (by decide) (by rw [ra 5 (by decide), hs]; rfl)
    · refine cp_ent kA (j := q) (ob _ (by omega)) (iv _ (by omega)) ?_ (by decide) (by rw [ra 3 (by decide), hc1]; rfl)
      have d := ae_sym_dn (n := 7) (ρ := ρ) (s := 1) (by decide)
      rw [ra 1 (by decide)] at d
      exact d
    · refine cp_ent kA (j := a) (ob _ (by omega)) (iv _ (by omega)) ?_ (by decide) (by rw [ra 4 (by decide), hc2]; rfl)
      have d := ae_sym_dn (n := 7) (ρ := ρ) (s := 2) (by decide)
      rw [ra 2 (by decide)] at d
      exact d
  · have hp : p ∈ ([(0, (2, 1, (0, []))), (1, (0, 0, (0, [(6, 1)])))] : ae_L) := hp
    simp only [List.mem_cons, List.not_mem_nil, or_false] at hp
    rcases hp with rfl | rfl
    · exact ⟨.ref 1, rfl, rfl⟩
    · refine ⟨.int x, rfl, x, rfl, ?_⟩
      have d := ae_sym_dn (n := 7) (ρ := ρ) (s := 6) (by decide)
      rw [rx] at d
      exact d

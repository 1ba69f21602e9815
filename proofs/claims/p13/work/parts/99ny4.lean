/-! What the class's days(n) keeps of the days told, 4 -/
noncomputable def nt4_r (L : Nat) (q1 q2 q3 q4 : Nat) (c1 c2 c3 c4 s : Int) (i : Nat) : Int := match i with
  | 0 => (L : Int)
  | 1 => (q1 : Int)
  | 2 => (q2 : Int)
  | 3 => (q3 : Int)
  | 4 => (q4 : Int)
  | 5 => c1
  | 6 => c2
  | 7 => c3
  | 8 => c4
  | _ => s
noncomputable def nt4_Q (L : Nat) (xs : Nat → Int32) (q1 q2 q3 q4 : Nat) (_ : Option Value) (_ : Option Value) (e e2 : List am_E) : Prop := ae_hk false L xs e ∧ ae_hk false L xs e2 ∧ ((q4 : Int) < ab_cv L xs e 34 5 → (q2 : Int) < ab_cv L xs e 39 q1 → (q3 : Int) < ab_cv L xs e 39 q2 → (q4 : Int) < ab_cv L xs e 39 q3 → ab_cv L xs e 39 q4 ≤ (q4 : Int) + 1)
theorem nt4_end0 {L : Nat} {xs : Nat → Int32} {q1 q2 q3 q4 : Nat} {c1 c2 c3 c4 s : Int} (H : ((q4 : Int) < s → (q2 : Int) < c1 → (q3 : Int) < c2 → (q4 : Int) < c3 → c4 ≤ (q4 : Int) + 1)) : ab_ok nt4_W (nt_G L xs (nt4_r L q1 q2 q3 q4 c1 c2 c3 c4 s)) L xs (nt4_Q L xs q1 q2 q3 q4) (nt4_r L q1 q2 q3 q4 c1 c2 c3 c4 s) nt4_e0 :=
  ad_endT (a := ((-1), [])) (b := (0, [])) ae_fok_ok rfl (by decide +kernel) (fun ρ x y e1 e2 sr K hm d1 d2 k1 k2 _ _ => by
    have r1 : ρ 1 = (q1 : Int) := sr 1 (by show 1 < 10; decide)
    have r2 : ρ 2 = (q2 : Int) := sr 2 (by show 2 < 10; decide)
    have r3 : ρ 3 = (q3 : Int) := sr 3 (by show 3 < 10; decide)
    have r4 : ρ 4 = (q4 : Int) := sr 4 (by show 4 < 10; decide)
    have u1 : ρ 5 = c1 := sr 5 (by show 5 < 10; decide)
    have u2 : ρ 6 = c2 := sr 6 (by show 6 < 10; decide)
    have u3 : ρ 7 = c3 := sr 7 (by show 7 < 10; decide)
    have u4 : ρ 8 = c4 := sr 8 (by show 8 < 10; decide)
    have us : ρ 9 = s := sr 9 (by show 9 < 10; decide)
    have e0 := cp_eo hm (p := 34) (i := ae_num 5) (x := ae_sym 9) (by decide +kernel) (j := 5) rfl
    rw [cp_cv k1 k2 rfl, cp_sym] at e0
    have e1 := cp_eo hm (p := 39) (i := ae_sym 1) (x := ae_sym 5) (by decide +kernel) (j := q1) (by rw [cp_sym, r1])
    rw [cp_cv k1 k2 rfl, cp_sym] at e1
    have e2 := cp_eo hm (p := 39) (i := ae_sym 2) (x := ae_sym 6) (by decide +kernel) (j := q2) (by rw [cp_sym, r2])
    rw [cp_cv k1 k2 rfl, cp_sym] at e2
    have e3 := cp_eo hm (p := 39) (i := ae_sym 3) (x := ae_sym 7) (by decide +kernel) (j := q3) (by rw [cp_sym, r3])
    rw [cp_cv k1 k2 rfl, cp_sym] at e3
    have e4 := cp_eo hm (p := 39) (i := ae_sym 4) (x := ae_sym 8) (by decide +kernel) (j := q4) (by rw [cp_sym, r4])
    rw [cp_cv k1 k2 rfl, cp_sym] at e4
    have f0 : (1 : Int) + (1 * ρ 1 + ((-1) * ρ 2 + 0)) ≤ 0 := (K.2.1 _ List.mem_cons_self).2
    have f1 : (2 : Int) + (1 * ρ 1 + ((-1) * ρ 3 + 0)) ≤ 0 := (K.2.1 _ (List.mem_cons_of_mem _ List.mem_cons_self)).2
    have f2 : (3 : Int) + (1 * ρ 1 + ((-1) * ρ 4 + 0)) ≤ 0 := (K.2.1 _ (List.mem_cons_of_mem _ (List.mem_cons_of_mem _ List.mem_cons_self))).2
    have f3 : (1 : Int) + (1 * ρ 2 + ((-1) * ρ 3 + 0)) ≤ 0 := (K.2.1 _ (List.mem_cons_of_mem _ (List.mem_cons_of_mem _ (List.mem_cons_of_mem _ List.mem_cons_self)))).2
    have f4 : (2 : Int) + (1 * ρ 2 + ((-1) * ρ 4 + 0)) ≤ 0 := (K.2.1 _ (List.mem_cons_of_mem _ (List.mem_cons_of_mem _ (List.mem_cons_of_mem _ (List.mem_cons_of_mem _ List.mem_cons_self))))).2
    have f5 : (1 : Int) + (1 * ρ 3 + ((-1) * ρ 4 + 0)) ≤ 0 := (K.2.1 _ (List.mem_cons_of_mem _ (List.mem_cons_of_mem _ (List.mem_cons_of_mem _ (List.mem_cons_of_mem _ (List.mem_cons_of_mem _ List.mem_cons_self)))))).2
    refine ⟨k1, k2, ?_⟩
    intro h1 h2 h3 h4
    have := H (by omega) (by omega) (by omega) (by omega)
    omega)
theorem nt4_end1 {L : Nat} {xs : Nat → Int32} {q1 q2 q3 q4 : Nat} {c1 c2 c3 c4 s : Int} (H : ((q4 : Int) < s → (q2 : Int) < c1 → (q3 : Int) < c2 → (q4 : Int) < c3 → c4 ≤ (q4 : Int) + 1)) : ab_ok nt4_W (nt_G L xs (nt4_r L q1 q2 q3 q4 c1 c2 c3 c4 s)) L xs (nt4_Q L xs q1 q2 q3 q4) (nt4_r L q1 q2 q3 q4 c1 c2 c3 c4 s) nt4_e1 :=
  ad_endT (a := (0, [(10, 1)])) (b := (0, [])) ae_fok_ok rfl (by decide +kernel) (fun ρ x y e1 e2 sr K hm d1 d2 k1 k2 _ _ => by
    have r1 : ρ 1 = (q1 : Int) := sr 1 (by show 1 < 10; decide)
    have r2 : ρ 2 = (q2 : Int) := sr 2 (by show 2 < 10; decide)
    have r3 : ρ 3 = (q3 : Int) := sr 3 (by show 3 < 10; decide)
    have r4 : ρ 4 = (q4 : Int) := sr 4 (by show 4 < 10; decide)
    have u1 : ρ 5 = c1 := sr 5 (by show 5 < 10; decide)
    have u2 : ρ 6 = c2 := sr 6 (by show 6 < 10; decide)
    have u3 : ρ 7 = c3 := sr 7 (by show 7 < 10; decide)
    have u4 : ρ 8 = c4 := sr 8 (by show 8 < 10; decide)
    have us : ρ 9 = s := sr 9 (by show 9 < 10; decide)
    have e0 := cp_eo hm (p := 34) (i := ae_num 5) (x := ae_sym 10) (by decide +kernel) (j := 5) rfl
    rw [cp_cv k1 k2 rfl, cp_sym] at e0
    have f0 : (1 : Int) + (1 * ρ 1 + ((-1) * ρ 2 + 0)) ≤ 0 := (K.2.1 _ List.mem_cons_self).2
    have f1 : (2 : Int) + (1 * ρ 1 + ((-1) * ρ 3 + 0)) ≤ 0 := (K.2.1 _ (List.mem_cons_of_mem _ List.mem_cons_self)).2
    have f2 : (3 : Int) + (1 * ρ 1 + ((-1) * ρ 4 + 0)) ≤ 0 := (K.2.1 _ (List.mem_cons_of_mem _ (List.mem_cons_of_mem _ List.mem_cons_self))).2
    have f3 : (1 : Int) + (1 * ρ 2 + ((-1) * ρ 3 + 0)) ≤ 0 := (K.2.1 _ (List.mem_cons_of_mem _ (List.mem_cons_of_mem _ (List.mem_cons_of_mem _ List.mem_cons_self)))).2
    have f4 : (2 : Int) + (1 * ρ 2 + ((-1) * ρ 4 + 0)) ≤ 0 := (K.2.1 _ (List.mem_cons_of_mem _ (List.mem_cons_of_mem _ (List.mem_cons_of_mem _ (List.mem_cons_of_mem _ List.mem_cons_self))))).2
    have f5 : (1 : Int) + (1 * ρ 3 + ((-1) * ρ 4 + 0)) ≤ 0 := (K.2.1 _ (List.mem_cons_of_mem _ (List.mem_cons_of_mem _ (List.mem_cons_of_mem _ (List.mem_cons_of_mem _ (List.mem_cons_of_mem _ List.mem_cons_self)))))).2
    have f6 : (3 : Int) + ((-1) * ρ 4 + (1 * ρ 10 + 0)) ≤ 0 := (K.2.1 _ (List.mem_cons_of_mem _ (List.mem_cons_of_mem _ (List.mem_cons_of_mem _ (List.mem_cons_of_mem _ (List.mem_cons_of_mem _ (List.mem_cons_of_mem _ List.mem_cons_self))))))).2
    refine ⟨k1, k2, ?_⟩
    intro h1 h2 h3 h4
    omega)
theorem nt4_end2 {L : Nat} {xs : Nat → Int32} {q1 q2 q3 q4 : Nat} {c1 c2 c3 c4 s : Int} (H : ((q4 : Int) < s → (q2 : Int) < c1 → (q3 : Int) < c2 → (q4 : Int) < c3 → c4 ≤ (q4 : Int) + 1)) : ab_ok nt4_W (nt_G L xs (nt4_r L q1 q2 q3 q4 c1 c2 c3 c4 s)) L xs (nt4_Q L xs q1 q2 q3 q4) (nt4_r L q1 q2 q3 q4 c1 c2 c3 c4 s) nt4_e2 :=
  ad_endT (a := (0, [(10, 1)])) (b := (0, [])) ae_fok_ok rfl (by decide +kernel) (fun ρ x y e1 e2 sr K hm d1 d2 k1 k2 _ _ => by
    have r1 : ρ 1 = (q1 : Int) := sr 1 (by show 1 < 10; decide)
    have r2 : ρ 2 = (q2 : Int) := sr 2 (by show 2 < 10; decide)
    have r3 : ρ 3 = (q3 : Int) := sr 3 (by show 3 < 10; decide)
    have r4 : ρ 4 = (q4 : Int) := sr 4 (by show 4 < 10; decide)
    have u1 : ρ 5 = c1 := sr 5 (by show 5 < 10; decide)
    have u2 : ρ 6 = c2 := sr 6 (by show 6 < 10; decide)
    have u3 : ρ 7 = c3 := sr 7 (by show 7 < 10; decide)
    have u4 : ρ 8 = c4 := sr 8 (by show 8 < 10; decide)
    have us : ρ 9 = s := sr 9 (by show 9 < 10; decide)
    have e0 := cp_eo hm (p := 34) (i := ae_num 5) (x := ae_sym 10) (by decide +kernel) (j := 5) rfl
    rw [cp_cv k1 k2 rfl, cp_sym] at e0
    have f0 : (1 : Int) + (1 * ρ 1 + ((-1) * ρ 2 + 0)) ≤ 0 := (K.2.1 _ List.mem_cons_self).2
    have f1 : (2 : Int) + (1 * ρ 1 + ((-1) * ρ 3 + 0)) ≤ 0 := (K.2.1 _ (List.mem_cons_of_mem _ List.mem_cons_self)).2
    have f2 : (3 : Int) + (1 * ρ 1 + ((-1) * ρ 4 + 0)) ≤ 0 := (K.2.1 _ (List.mem_cons_of_mem _ (List.mem_cons_of_mem _ List.mem_cons_self))).2
    have f3 : (1 : Int) + (1 * ρ 2 + ((-1) * ρ 3 + 0)) ≤ 0 := (K.2.1 _ (List.mem_cons_of_mem _ (List.mem_cons_of_mem _ (List.mem_cons_of_mem _ List.mem_cons_self)))).2
    have f4 : (2 : Int) + (1 * ρ 2 + ((-1) * ρ 4 + 0)) ≤ 0 := (K.2.1 _ (List.mem_cons_of_mem _ (List.mem_cons_of_mem _ (List.mem_cons_of_mem _ (List.mem_cons_of_mem _ List.mem_cons_self))))).2
    have f5 : (1 : Int) + (1 * ρ 3 + ((-1) * ρ 4 + 0)) ≤ 0 := (K.2.1 _ (List.mem_cons_of_mem _ (List.mem_cons_of_mem _ (List.mem_cons_of_mem _ (List.mem_cons_of_mem _ (List.mem_cons_of_mem _ List.mem_cons_self)))))).2
    have f6 : (0 : Int) + ((-1) * ρ 4 + (1 * ρ 10 + 0)) ≤ 0 := (K.2.1 _ (List.mem_cons_of_mem _ (List.mem_cons_of_mem _ (List.mem_cons_of_mem _ (List.mem_cons_of_mem _ (List.mem_cons_of_mem _ (List.mem_cons_of_mem _ List.mem_cons_self))))))).2
    refine ⟨k1, k2, ?_⟩
    intro h1 h2 h3 h4
    omega)
theorem nt4_end3 {L : Nat} {xs : Nat → Int32} {q1 q2 q3 q4 : Nat} {c1 c2 c3 c4 s : Int} (H : ((q4 : Int) < s → (q2 : Int) < c1 → (q3 : Int) < c2 → (q4 : Int) < c3 → c4 ≤ (q4 : Int) + 1)) : ab_ok nt4_W (nt_G L xs (nt4_r L q1 q2 q3 q4 c1 c2 c3 c4 s)) L xs (nt4_Q L xs q1 q2 q3 q4) (nt4_r L q1 q2 q3 q4 c1 c2 c3 c4 s) nt4_e3 :=
  ad_endT (a := (0, [(10, 1)])) (b := (0, [])) ae_fok_ok rfl (by decide +kernel) (fun ρ x y e1 e2 sr K hm d1 d2 k1 k2 _ _ => by
    have r1 : ρ 1 = (q1 : Int) := sr 1 (by show 1 < 10; decide)
    have r2 : ρ 2 = (q2 : Int) := sr 2 (by show 2 < 10; decide)
    have r3 : ρ 3 = (q3 : Int) := sr 3 (by show 3 < 10; decide)
    have r4 : ρ 4 = (q4 : Int) := sr 4 (by show 4 < 10; decide)
    have u1 : ρ 5 = c1 := sr 5 (by show 5 < 10; decide)
    have u2 : ρ 6 = c2 := sr 6 (by show 6 < 10; decide)
    have u3 : ρ 7 = c3 := sr 7 (by show 7 < 10; decide)
    have u4 : ρ 8 = c4 := sr 8 (by show 8 < 10; decide)
    have us : ρ 9 = s := sr 9 (by show 9 < 10; decide)
    have e0 := cp_eo hm (p := 34) (i := ae_num 5) (x := ae_sym 10) (by decide +kernel) (j := 5) rfl
    rw [cp_cv k1 k2 rfl, cp_sym] at e0
    have e1 := cp_eo hm (p := 39) (i := ae_sym 1) (x := ae_sym 11) (by decide +kernel) (j := q1) (by rw [cp_sym, r1])
    rw [cp_cv k1 k2 rfl, cp_sym] at e1
    have f0 : (1 : Int) + (1 * ρ 1 + ((-1) * ρ 2 + 0)) ≤ 0 := (K.2.1 _ List.mem_cons_self).2
    have f1 : (2 : Int) + (1 * ρ 1 + ((-1) * ρ 3 + 0)) ≤ 0 := (K.2.1 _ (List.mem_cons_of_mem _ List.mem_cons_self)).2
    have f2 : (3 : Int) + (1 * ρ 1 + ((-1) * ρ 4 + 0)) ≤ 0 := (K.2.1 _ (List.mem_cons_of_mem _ (List.mem_cons_of_mem _ List.mem_cons_self))).2
    have f3 : (1 : Int) + (1 * ρ 2 + ((-1) * ρ 3 + 0)) ≤ 0 := (K.2.1 _ (List.mem_cons_of_mem _ (List.mem_cons_of_mem _ (List.mem_cons_of_mem _ List.mem_cons_self)))).2
    have f4 : (2 : Int) + (1 * ρ 2 + ((-1) * ρ 4 + 0)) ≤ 0 := (K.2.1 _ (List.mem_cons_of_mem _ (List.mem_cons_of_mem _ (List.mem_cons_of_mem _ (List.mem_cons_of_mem _ List.mem_cons_self))))).2
    have f5 : (1 : Int) + (1 * ρ 3 + ((-1) * ρ 4 + 0)) ≤ 0 := (K.2.1 _ (List.mem_cons_of_mem _ (List.mem_cons_of_mem _ (List.mem_cons_of_mem _ (List.mem_cons_of_mem _ (List.mem_cons_of_mem _ List.mem_cons_self)))))).2
    have f6 : (0 : Int) + ((-1) * ρ 2 + (1 * ρ 11 + 0)) ≤ 0 := (K.2.1 _ (List.mem_cons_of_mem _ (List.mem_cons_of_mem _ (List.mem_cons_of_mem _ (List.mem_cons_of_mem _ (List.mem_cons_of_mem _ (List.mem_cons_of_mem _ List.mem_cons_self))))))).2
    refine ⟨k1, k2, ?_⟩
    intro h1 h2 h3 h4
    omega)
theorem nt4_end4 {L : Nat} {xs : Nat → Int32} {q1 q2 q3 q4 : Nat} {c1 c2 c3 c4 s : Int} (H : ((q4 : Int) < s → (q2 : Int) < c1 → (q3 : Int) < c2 → (q4 : Int) < c3 → c4 ≤ (q4 : Int) + 1)) : ab_ok nt4_W (nt_G L xs (nt4_r L q1 q2 q3 q4 c1 c2 c3 c4 s)) L xs (nt4_Q L xs q1 q2 q3 q4) (nt4_r L q1 q2 q3 q4 c1 c2 c3 c4 s) nt4_e4 :=
  ad_endT (a := (0, [(10, 1)])) (b := (0, [])) ae_fok_ok rfl (by decide +kernel) (fun ρ x y e1 e2 sr K hm d1 d2 k1 k2 _ _ => by
    have r1 : ρ 1 = (q1 : Int) := sr 1 (by show 1 < 10; decide)
    have r2 : ρ 2 = (q2 : Int) := sr 2 (by show 2 < 10; decide)
    have r3 : ρ 3 = (q3 : Int) := sr 3 (by show 3 < 10; decide)
    have r4 : ρ 4 = (q4 : Int) := sr 4 (by show 4 < 10; decide)
    have u1 : ρ 5 = c1 := sr 5 (by show 5 < 10; decide)
    have u2 : ρ 6 = c2 := sr 6 (by show 6 < 10; decide)
    have u3 : ρ 7 = c3 := sr 7 (by show 7 < 10; decide)
    have u4 : ρ 8 = c4 := sr 8 (by show 8 < 10; decide)
    have us : ρ 9 = s := sr 9 (by show 9 < 10; decide)
    have e0 := cp_eo hm (p := 34) (i := ae_num 5) (x := ae_sym 10) (by decide +kernel) (j := 5) rfl
    rw [cp_cv k1 k2 rfl, cp_sym] at e0
    have e2 := cp_eo hm (p := 39) (i := ae_sym 2) (x := ae_sym 11) (by decide +kernel) (j := q2) (by rw [cp_sym, r2])
    rw [cp_cv k1 k2 rfl, cp_sym] at e2
    have f0 : (1 : Int) + (1 * ρ 1 + ((-1) * ρ 2 + 0)) ≤ 0 := (K.2.1 _ List.mem_cons_self).2
    have f1 : (2 : Int) + (1 * ρ 1 + ((-1) * ρ 3 + 0)) ≤ 0 := (K.2.1 _ (List.mem_cons_of_mem _ List.mem_cons_self)).2
    have f2 : (3 : Int) + (1 * ρ 1 + ((-1) * ρ 4 + 0)) ≤ 0 := (K.2.1 _ (List.mem_cons_of_mem _ (List.mem_cons_of_mem _ List.mem_cons_self))).2
    have f3 : (1 : Int) + (1 * ρ 2 + ((-1) * ρ 3 + 0)) ≤ 0 := (K.2.1 _ (List.mem_cons_of_mem _ (List.mem_cons_of_mem _ (List.mem_cons_of_mem _ List.mem_cons_self)))).2
    have f4 : (2 : Int) + (1 * ρ 2 + ((-1) * ρ 4 + 0)) ≤ 0 := (K.2.1 _ (List.mem_cons_of_mem _ (List.mem_cons_of_mem _ (List.mem_cons_of_mem _ (List.mem_cons_of_mem _ List.mem_cons_self))))).2
    have f5 : (1 : Int) + (1 * ρ 3 + ((-1) * ρ 4 + 0)) ≤ 0 := (K.2.1 _ (List.mem_cons_of_mem _ (List.mem_cons_of_mem _ (List.mem_cons_of_mem _ (List.mem_cons_of_mem _ (List.mem_cons_of_mem _ List.mem_cons_self)))))).2
    have f6 : (0 : Int) + ((-1) * ρ 3 + (1 * ρ 11 + 0)) ≤ 0 := (K.2.1 _ (List.mem_cons_of_mem _ (List.mem_cons_of_mem _ (List.mem_cons_of_mem _ (List.mem_cons_of_mem _ (List.mem_cons_of_mem _ (List.mem_cons_of_mem _ List.mem_cons_self))))))).2
    refine ⟨k1, k2, ?_⟩
    intro h1 h2 h3 h4
    omega)
theorem nt4_end5 {L : Nat} {xs : Nat → Int32} {q1 q2 q3 q4 : Nat} {c1 c2 c3 c4 s : Int} (H : ((q4 : Int) < s → (q2 : Int) < c1 → (q3 : Int) < c2 → (q4 : Int) < c3 → c4 ≤ (q4 : Int) + 1)) : ab_ok nt4_W (nt_G L xs (nt4_r L q1 q2 q3 q4 c1 c2 c3 c4 s)) L xs (nt4_Q L xs q1 q2 q3 q4) (nt4_r L q1 q2 q3 q4 c1 c2 c3 c4 s) nt4_e5 :=
  ad_endT (a := (0, [(10, 1)])) (b := (0, [])) ae_fok_ok rfl (by decide +kernel) (fun ρ x y e1 e2 sr K hm d1 d2 k1 k2 _ _ => by
    have r1 : ρ 1 = (q1 : Int) := sr 1 (by show 1 < 10; decide)
    have r2 : ρ 2 = (q2 : Int) := sr 2 (by show 2 < 10; decide)
    have r3 : ρ 3 = (q3 : Int) := sr 3 (by show 3 < 10; decide)
    have r4 : ρ 4 = (q4 : Int) := sr 4 (by show 4 < 10; decide)
    have u1 : ρ 5 = c1 := sr 5 (by show 5 < 10; decide)
    have u2 : ρ 6 = c2 := sr 6 (by show 6 < 10; decide)
    have u3 : ρ 7 = c3 := sr 7 (by show 7 < 10; decide)
    have u4 : ρ 8 = c4 := sr 8 (by show 8 < 10; decide)
    have us : ρ 9 = s := sr 9 (by show 9 < 10; decide)
    have e0 := cp_eo hm (p := 34) (i := ae_num 5) (x := ae_sym 10) (by decide +kernel) (j := 5) rfl
    rw [cp_cv k1 k2 rfl, cp_sym] at e0
    have e3 := cp_eo hm (p := 39) (i := ae_sym 3) (x := ae_sym 11) (by decide +kernel) (j := q3) (by rw [cp_sym, r3])
    rw [cp_cv k1 k2 rfl, cp_sym] at e3
    have f0 : (1 : Int) + (1 * ρ 1 + ((-1) * ρ 2 + 0)) ≤ 0 := (K.2.1 _ List.mem_cons_self).2
    have f1 : (2 : Int) + (1 * ρ 1 + ((-1) * ρ 3 + 0)) ≤ 0 := (K.2.1 _ (List.mem_cons_of_mem _ List.mem_cons_self)).2
    have f2 : (3 : Int) + (1 * ρ 1 + ((-1) * ρ 4 + 0)) ≤ 0 := (K.2.1 _ (List.mem_cons_of_mem _ (List.mem_cons_of_mem _ List.mem_cons_self))).2
    have f3 : (1 : Int) + (1 * ρ 2 + ((-1) * ρ 3 + 0)) ≤ 0 := (K.2.1 _ (List.mem_cons_of_mem _ (List.mem_cons_of_mem _ (List.mem_cons_of_mem _ List.mem_cons_self)))).2
    have f4 : (2 : Int) + (1 * ρ 2 + ((-1) * ρ 4 + 0)) ≤ 0 := (K.2.1 _ (List.mem_cons_of_mem _ (List.mem_cons_of_mem _ (List.mem_cons_of_mem _ (List.mem_cons_of_mem _ List.mem_cons_self))))).2
    have f5 : (1 : Int) + (1 * ρ 3 + ((-1) * ρ 4 + 0)) ≤ 0 := (K.2.1 _ (List.mem_cons_of_mem _ (List.mem_cons_of_mem _ (List.mem_cons_of_mem _ (List.mem_cons_of_mem _ (List.mem_cons_of_mem _ List.mem_cons_self)))))).2
    have f6 : (0 : Int) + ((-1) * ρ 4 + (1 * ρ 11 + 0)) ≤ 0 := (K.2.1 _ (List.mem_cons_of_mem _ (List.mem_cons_of_mem _ (List.mem_cons_of_mem _ (List.mem_cons_of_mem _ (List.mem_cons_of_mem _ (List.mem_cons_of_mem _ List.mem_cons_self))))))).2
    refine ⟨k1, k2, ?_⟩
    intro h1 h2 h3 h4
    omega)
theorem nt4_end6 {L : Nat} {xs : Nat → Int32} {q1 q2 q3 q4 : Nat} {c1 c2 c3 c4 s : Int} (H : ((q4 : Int) < s → (q2 : Int) < c1 → (q3 : Int) < c2 → (q4 : Int) < c3 → c4 ≤ (q4 : Int) + 1)) : ab_ok nt4_W (nt_G L xs (nt4_r L q1 q2 q3 q4 c1 c2 c3 c4 s)) L xs (nt4_Q L xs q1 q2 q3 q4) (nt4_r L q1 q2 q3 q4 c1 c2 c3 c4 s) nt4_e6 :=
  ad_endT (a := (0, [(10, 1)])) (b := (0, [])) ae_fok_ok rfl (by decide +kernel) (fun ρ x y e1 e2 sr K hm d1 d2 k1 k2 _ _ => by
    have r1 : ρ 1 = (q1 : Int) := sr 1 (by show 1 < 10; decide)
    have r2 : ρ 2 = (q2 : Int) := sr 2 (by show 2 < 10; decide)
    have r3 : ρ 3 = (q3 : Int) := sr 3 (by show 3 < 10; decide)
    have r4 : ρ 4 = (q4 : Int) := sr 4 (by show 4 < 10; decide)
    have u1 : ρ 5 = c1 := sr 5 (by show 5 < 10; decide)
    have u2 : ρ 6 = c2 := sr 6 (by show 6 < 10; decide)
    have u3 : ρ 7 = c3 := sr 7 (by show 7 < 10; decide)
    have u4 : ρ 8 = c4 := sr 8 (by show 8 < 10; decide)
    have us : ρ 9 = s := sr 9 (by show 9 < 10; decide)
    have e0 := cp_eo hm (p := 34) (i := ae_num 5) (x := ae_sym 10) (by decide +kernel) (j := 5) rfl
    rw [cp_cv k1 k2 rfl, cp_sym] at e0
    have e4 := cp_eo hm (p := 39) (i := ae_sym 4) (x := ae_sym 11) (by decide +kernel) (j := q4) (by rw [cp_sym, r4])
    rw [cp_cv k1 k2 rfl, cp_sym] at e4
    have f0 : (1 : Int) + (1 * ρ 1 + ((-1) * ρ 2 + 0)) ≤ 0 := (K.2.1 _ List.mem_cons_self).2
    have f1 : (2 : Int) + (1 * ρ 1 + ((-1) * ρ 3 + 0)) ≤ 0 := (K.2.1 _ (List.mem_cons_of_mem _ List.mem_cons_self)).2
    have f2 : (3 : Int) + (1 * ρ 1 + ((-1) * ρ 4 + 0)) ≤ 0 := (K.2.1 _ (List.mem_cons_of_mem _ (List.mem_cons_of_mem _ List.mem_cons_self))).2
    have f3 : (1 : Int) + (1 * ρ 2 + ((-1) * ρ 3 + 0)) ≤ 0 := (K.2.1 _ (List.mem_cons_of_mem _ (List.mem_cons_of_mem _ (List.mem_cons_of_mem _ List.mem_cons_self)))).2
    have f4 : (2 : Int) + (1 * ρ 2 + ((-1) * ρ 4 + 0)) ≤ 0 := (K.2.1 _ (List.mem_cons_of_mem _ (List.mem_cons_of_mem _ (List.mem_cons_of_mem _ (List.mem_cons_of_mem _ List.mem_cons_self))))).2
    have f5 : (1 : Int) + (1 * ρ 3 + ((-1) * ρ 4 + 0)) ≤ 0 := (K.2.1 _ (List.mem_cons_of_mem _ (List.mem_cons_of_mem _ (List.mem_cons_of_mem _ (List.mem_cons_of_mem _ (List.mem_cons_of_mem _ List.mem_cons_self)))))).2
    have f6 : (-1 : Int) + ((-1) * ρ 4 + (1 * ρ 11 + 0)) ≤ 0 := (K.2.1 _ (List.mem_cons_of_mem _ (List.mem_cons_of_mem _ (List.mem_cons_of_mem _ (List.mem_cons_of_mem _ (List.mem_cons_of_mem _ (List.mem_cons_of_mem _ List.mem_cons_self))))))).2
    refine ⟨k1, k2, ?_⟩
    intro h1 h2 h3 h4
    omega)
theorem nt4_run {L : Nat} {xs : Nat → Int32} (hL : L ≤ 3072) {q1 q2 q3 q4 : Nat} (l0 : q1 < q2) (l1 : q2 < q3) (l2 : q3 < q4) (lz : q4 < 30) {hA : List am_E} (kA : ae_hk false L xs hA) (H : ((q4 : Int) < ab_cv L xs hA 34 5 → (q2 : Int) < ab_cv L xs hA 39 q1 → (q3 : Int) < ab_cv L xs hA 39 q2 → (q4 : Int) < ab_cv L xs hA 39 q3 → ab_cv L xs hA 39 q4 ≤ (q4 : Int) + 1)) {x : Int32} {d n : Nat} {v : Option Value} {e : List am_E} (hd : 70 ≤ d) (hrun : am_go L xs n d 146 0 (lv_args 0 [.ref 1, .int x]) [] hA = some (v, e)) : ((q4 : Int) < ab_cv L xs e 34 5 → (q2 : Int) < ab_cv L xs e 39 q1 → (q3 : Int) < ab_cv L xs e 39 q2 → (q4 : Int) < ab_cv L xs e 39 q3 → ab_cv L xs e 39 q4 ≤ (q4 : Int) + 1) ∧ ∀ p j, Nat.blt p 219 = true → ae_inm nt4_mo p j = false → ae_cell L xs e p j = ae_cell L xs hA p j := by
  have kM : ae_hk false L xs (am_mX2 ap_b false hA hA) := by rw [show am_mX2 ap_b false hA hA = hA from am_mix_self ap_b hA]; exact kA
  have ob : ∀ j, j < 30 → 0 < 39 ∧ 39 ≤ ae_np ∧ j < (ae_sh 39).2.2 := fun j hj => ⟨by decide, by decide, by show j < 30; exact hj⟩
  have iv : ∀ j, j < 30 → (ae_iv 39 j).1 = 0 := fun j hj => (by decide +kernel : ∀ j < 30, (ae_iv 39 j).1 = 0) j hj
  obtain ⟨x0, xa0, xb0, -⟩ := cp_int kA (ob q1 (by omega)) (iv q1 (by omega))
  obtain ⟨x1, xa1, xb1, -⟩ := cp_int kA (ob q2 (by omega)) (iv q2 (by omega))
  obtain ⟨x2, xa2, xb2, -⟩ := cp_int kA (ob q3 (by omega)) (iv q3 (by omega))
  obtain ⟨x3, xa3, xb3, -⟩ := cp_int kA (ob q4 (by omega)) (iv q4 (by omega))
  obtain ⟨xs0, xsa, xsb, xsc, xsd⟩ := cp_int kA (p := 34) (j := 5) ⟨by decide, by decide, by decide⟩ rfl
  have xsc : (0 : Int) ≤ xs0.toInt := xsc
  have xsd : xs0.toInt ≤ 30 := xsd
  generalize hc1 : ab_cv L xs hA 39 q1 = c1 at H xb0
  generalize hc2 : ab_cv L xs hA 39 q2 = c2 at H xb1
  generalize hc3 : ab_cv L xs hA 39 q3 = c3 at H xb2
  generalize hc4 : ab_cv L xs hA 39 q4 = c4 at H xb3
  generalize hs : ab_cv L xs hA 34 5 = s at H xsb
  have rho : ∃ ρ : Nat → Int, (∀ s', s' < 10 → ρ s' = nt4_r L q1 q2 q3 q4 c1 c2 c3 c4 s s') ∧ ρ 10 = x.toInt := ⟨fun i => bif Nat.beq i 10 then x.toInt else nt4_r L q1 q2 q3 q4 c1 c2 c3 c4 s i, fun s' hs' => by
    show (bif Nat.beq s' 10 then x.toInt else nt4_r L q1 q2 q3 q4 c1 c2 c3 c4 s s') = _
    rw [show Nat.beq s' 10 = false from by
      cases h : Nat.beq s' 10 with
      | false => rfl
      | true => have := Nat.eq_of_beq_eq_true h; omega]
    rfl, rfl⟩
  obtain ⟨ρ, ra, rx⟩ := rho
  have start := nt4_all hL (Q := nt4_Q L xs q1 q2 q3 q4) (r0 := (nt4_r L q1 q2 q3 q4 c1 c2 c3 c4 s)) (bh_cons (P := fun t => ab_ok nt4_W (nt_G L xs (nt4_r L q1 q2 q3 q4 c1 c2 c3 c4 s)) L xs (nt4_Q L xs q1 q2 q3 q4) (nt4_r L q1 q2 q3 q4 c1 c2 c3 c4 s) t) (nt4_end0 H) (bh_cons (P := fun t => ab_ok nt4_W (nt_G L xs (nt4_r L q1 q2 q3 q4 c1 c2 c3 c4 s)) L xs (nt4_Q L xs q1 q2 q3 q4) (nt4_r L q1 q2 q3 q4 c1 c2 c3 c4 s) t) (nt4_end1 H) (bh_cons (P := fun t => ab_ok nt4_W (nt_G L xs (nt4_r L q1 q2 q3 q4 c1 c2 c3 c4 s)) L xs (nt4_Q L xs q1 q2 q3 q4) (nt4_r L q1 q2 q3 q4 c1 c2 c3 c4 s) t) (nt4_end2 H) (bh_cons (P := fun t => ab_ok nt4_W (nt_G L xs (nt4_r L q1 q2 q3 q4 c1 c2 c3 c4 s)) L xs (nt4_Q L xs q1 q2 q3 q4) (nt4_r L q1 q2 q3 q4 c1 c2 c3 c4 s) t) (nt4_end3 H) (bh_cons (P := fun t => ab_ok nt4_W (nt_G L xs (nt4_r L q1 q2 q3 q4 c1 c2 c3 c4 s)) L xs (nt4_Q L xs q1 q2 q3 q4) (nt4_r L q1 q2 q3 q4 c1 c2 c3 c4 s) t) (nt4_end4 H) (bh_cons (P := fun t => ab_ok nt4_W (nt_G L xs (nt4_r L q1 q2 q3 q4 c1 c2 c3 c4 s)) L xs (nt4_Q L xs q1 q2 q3 q4) (nt4_r L q1 q2 q3 q4 c1 c2 c3 c4 s) t) (nt4_end5 H) (bh_cons (P := fun t => ab_ok nt4_W (nt_G L xs (nt4_r L q1 q2 q3 q4 c1 c2 c3 c4 s)) L xs (nt4_Q L xs q1 q2 q3 q4) (nt4_r L q1 q2 q3 q4 c1 c2 c3 c4 s) t) (nt4_end6 H) bh_nil))))))) nt4_t0 (List.mem_append_left _ List.mem_cons_self) ρ ([(d, 146, 0, lv_args 0 [.ref 1, .int x], [])], none) ([], some (.int 0)) hA hA ⟨⟨fun q hq => ?_, fun f hf => ?_, fun d hd => absurd hd List.not_mem_nil⟩, ⟨⟨by decide, by omega⟩, ra 0 (by decide)⟩, ad_hp_new kM (fun m hm => ?_), ⟨⟨⟨by show 70 ≤ d; omega, rfl, rfl, fun p hp => ?_, trivial⟩, trivial⟩, fun e => by cases e⟩, ⟨trivial, fun _ => ⟨.int 0, rfl, 0, rfl, ae_num_dn 0⟩⟩, aq_hs_of false kA, aq_hs_of true kA, trivial, ⟨_, fun t ht => absurd ht List.not_mem_nil, ae_fr_rf _ _ _ _, fun m hm => absurd hm List.not_mem_nil⟩⟩ (by show 10 ≤ 11; decide) (fun s hs => ra s hs)
  · obtain ⟨v1, e1, v2, e2, ⟨n1, g1⟩, -, -, -, fr, X1, X2, X⟩ := start
    have q := am_det g1 hrun
    injection q with q1 q2
    subst q1; subst q2
    refine ⟨X, fun p j hp hi => ?_⟩
    have fr := fr p j hi
    rwa [ap_c (s := false) X1.1.1 X2.1.1 hp, ap_c (s := false) kA.1.1 kA.1.1 hp] at fr
  · have hq : q ∈ ([(1, 0, 29), (2, 0, 29), (3, 0, 29), (4, 0, 29), (5, (-2147483648), 2147483647), (6, (-2147483648), 2147483647), (7, (-2147483648), 2147483647), (8, (-2147483648), 2147483647), (9, 0, 30), (10, (-2147483648), 2147483647)] : ae_B) := hq
    simp only [List.mem_cons, List.not_mem_nil, or_false] at hq
    rcases hq with rfl | rfl | rfl | rfl | rfl | rfl | rfl | rfl | rfl | rfl
    · exact ⟨(by decide : 1 < 11), by rw [ra 1 (by decide)]; show (0 : Int) ≤ (q1 : Int); omega, by rw [ra 1 (by decide)]; show (q1 : Int) ≤ 29; omega⟩
    · exact ⟨(by decide : 2 < 11), by rw [ra 2 (by decide)]; show (0 : Int) ≤ (q2 : Int); omega, by rw [ra 2 (by decide)]; show (q2 : Int) ≤ 29; omega⟩
    · exact ⟨(by decide : 3 < 11), by rw [ra 3 (by decide)]; show (0 : Int) ≤ (q3 : Int); omega, by rw [ra 3 (by decide)]; show (q3 : Int) ≤ 29; omega⟩
    · exact ⟨(by decide : 4 < 11), by rw [ra 4 (by decide)]; show (0 : Int) ≤ (q4 : Int); omega, by rw [ra 4 (by decide)]; show (q4 : Int) ≤ 29; omega⟩
    · have := fd_i32 x0
      exact ⟨(by decide : 5 < 11), by rw [ra 5 (by decide)]; show (-2147483648 : Int) ≤ c1; omega, by rw [ra 5 (by decide)]; show c1 ≤ 2147483647; omega⟩
    · have := fd_i32 x1
      exact ⟨(by decide : 6 < 11), by rw [ra 6 (by decide)]; show (-2147483648 : Int) ≤ c2; omega, by rw [ra 6 (by decide)]; show c2 ≤ 2147483647; omega⟩
    · have := fd_i32 x2
      exact ⟨(by decide : 7 < 11), by rw [ra 7 (by decide)]; show (-2147483648 : Int) ≤ c3; omega, by rw [ra 7 (by decide)]; show c3 ≤ 2147483647; omega⟩
    · have := fd_i32 x3
      exact ⟨(by decide : 8 < 11), by rw [ra 8 (by decide)]; show (-2147483648 : Int) ≤ c4; omega, by rw [ra 8 (by decide)]; show c4 ≤ 2147483647; omega⟩
    · exact ⟨(by decide : 9 < 11), by rw [ra 9 (by decide)]; show (0 : Int) ≤ s; omega, by rw [ra 9 (by decide)]; show s ≤ 30; omega⟩
    · have := fd_i32 x
      exact ⟨(by decide : 10 < 11), by rw [rx]; show (-2147483648 : Int) ≤ x.toInt; omega, by rw [rx]; show x.toInt ≤ 2147483647; omega⟩
  · have hf : f ∈ ([(1, [(1, 1), (2, (-1))]), (2, [(1, 1), (3, (-1))]), (3, [(1, 1), (4, (-1))]), (1, [(2, 1), (3, (-1))]), (2, [(2, 1), (4, (-1))]), (1, [(3, 1), (4, (-1))])] : List ae_X) := hf
    simp only [List.mem_cons, List.not_mem_nil, or_false] at hf
    rcases hf with rfl | rfl | rfl | rfl | rfl | rfl
    · refine ⟨⟨by decide, by decide, trivial⟩, ?_⟩
      show (1 : Int) + (1 * ρ 1 + ((-1) * ρ 2 + 0)) ≤ 0
      rw [ra 1 (by decide), ra 2 (by decide)]
      show (1 : Int) + (1 * (q1 : Int) + ((-1) * (q2 : Int) + 0)) ≤ 0
      omega
    · refine ⟨⟨by decide, by decide, trivial⟩, ?_⟩
      show (2 : Int) + (1 * ρ 1 + ((-1) * ρ 3 + 0)) ≤ 0
      rw [ra 1 (by decide), ra 3 (by decide)]
      show (2 : Int) + (1 * (q1 : Int) + ((-1) * (q3 : Int) + 0)) ≤ 0
      omega
    · refine ⟨⟨by decide, by decide, trivial⟩, ?_⟩
      show (3 : Int) + (1 * ρ 1 + ((-1) * ρ 4 + 0)) ≤ 0
      rw [ra 1 (by decide), ra 4 (by decide)]
      show (3 : Int) + (1 * (q1 : Int) + ((-1) * (q4 : Int) + 0)) ≤ 0
      omega
    · refine ⟨⟨by decide, by decide, trivial⟩, ?_⟩
      show (1 : Int) + (1 * ρ 2 + ((-1) * ρ 3 + 0)) ≤ 0
      rw [ra 2 (by decide), ra 3 (by decide)]
      show (1 : Int) + (1 * (q2 : Int) + ((-1) * (q3 : Int) + 0)) ≤ 0
      omega
    · refine ⟨⟨by decide, by decide, trivial⟩, ?_⟩
      show (2 : Int) + (1 * ρ 2 + ((-1) * ρ 4 + 0)) ≤ 0
      rw [ra 2 (by decide), ra 4 (by decide)]
      show (2 : Int) + (1 * (q2 : Int) + ((-1) * (q4 : Int) + 0)) ≤ 0
      omega
    · refine ⟨⟨by decide, by decide, trivial⟩, ?_⟩
      show (1 : Int) + (1 * ρ 3 + ((-1) * ρ 4 + 0)) ≤ 0
      rw [ra 3 (by decide), ra 4 (by decide)]
      show (1 : Int) + (1 * (q3 : Int) + ((-1) * (q4 : Int) + 0)) ≤ 0
      omega
  · have hm : m ∈ ([(34, (5, []), (0, 0, (0, [(9, 1)])), false), (39, (0, [(1, 1)]), (0, 0, (0, [(5, 1)])), false), (39, (0, [(2, 1)]), (0, 0, (0, [(6, 1)])), false), (39, (0, [(3, 1)]), (0, 0, (0, [(7, 1)])), false), (39, (0, [(4, 1)]), (0, 0, (0, [(8, 1)])), false)] : List ae_M) := hm
    simp only [List.mem_cons, List.not_mem_nil, or_false] at hm
    rcases hm with rfl | rfl | rfl | rfl | rfl
    all_goals rw [show am_mX2 ap_b false hA hA = hA from am_mix_self ap_b hA]
    · exact cp_ent kA (j := 5) ⟨by decide, by decide, by decide⟩ rfl (ae_num_dn _) (by decide) (by rw [ra 9 (by decide), hs]; rfl)
    · refine cp_ent kA (j := q1) (ob _ (by omega)) (iv _ (by omega)) ?_ (by decide) (by rw [ra 5 (by decide), hc1]; rfl)
      have d := ae_sym_dn (n := 11) (ρ := ρ) (s := 1) (by decide)
      rw [ra 1 (by decide)] at d
      exact d
    · refine cp_ent kA (j := q2) (ob _ (by omega)) (iv _ (by omega)) ?_ (by decide) (by rw [ra 6 (by decide), hc2]; rfl)
      have d := ae_sym_dn (n := 11) (ρ := ρ) (s := 2) (by decide)
      rw [ra 2 (by decide)] at d
      exact d
    · refine cp_ent kA (j := q3) (ob _ (by omega)) (iv _ (by omega)) ?_ (by decide) (by rw [ra 7 (by decide), hc3]; rfl)
      have d := ae_sym_dn (n := 11) (ρ := ρ) (s := 3) (by decide)
      rw [ra 3 (by decide)] at d
      exact d
    · refine cp_ent kA (j := q4) (ob _ (by omega)) (iv _ (by omega)) ?_ (by decide) (by rw [ra 8 (by decide), hc4]; rfl)
      have d := ae_sym_dn (n := 11) (ρ := ρ) (s := 4) (by decide)
      rw [ra 4 (by decide)] at d
      exact d
  · have hp : p ∈ ([(0, (2, 1, (0, []))), (1, (0, 0, (0, [(10, 1)])))] : ae_L) := hp
    simp only [List.mem_cons, List.not_mem_nil, or_false] at hp
    rcases hp with rfl | rfl
    · exact ⟨.ref 1, rfl, rfl⟩
    · refine ⟨.int x, rfl, x, rfl, ?_⟩
      have d := ae_sym_dn (n := 11) (ρ := ρ) (s := 10) (by decide)
      rw [rx] at d
      exact d

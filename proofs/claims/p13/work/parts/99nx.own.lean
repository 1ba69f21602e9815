/-! The class's own runs: what they keep of the days told -/
noncomputable def cp_S (b : Nat) : Nat := (lw_pp.getD b (0, 0)).1
noncomputable def cp_C (b : Nat) : Nat := (lw_pp.getD b (0, 0)).2
noncomputable def cp_X (l : List (Int × List Nat)) (L : Nat) (xs : Nat → Int32) (g : Nat) (c s : Nat → Int) (v : Option Value) (e : List am_E) : Prop := ∃ q ∈ l, (∃ x : Int32, v = some (.int x) ∧ x.toInt = q.1) ∧ ∀ b, b < 4 → ab_cv L xs e (cp_C b) g = c (q.2.getD b 0) ∧ ab_cv L xs e (cp_S b) 5 = s (q.2.getD b 0)
noncomputable def cp_r (L g : Nat) (c s : Nat → Int) (i : Nat) : Int := match i with
  | 0 => (L : Int)
  | 1 => (g : Int)
  | i + 2 => bif Nat.blt i 4 then c i else s (i - 4)
noncomputable def cp_en (M : List ae_M) (m : ae_M) : Bool := M.any fun u => Nat.beq u.1 m.1 && (ae_xe u.2.1 m.2.1 && ae_ve u.2.2.1 m.2.2.1)
noncomputable def cp_ok (M : List ae_M) (q : List Nat) : Bool := (List.range 4).all fun b => Nat.blt (q.getD b 0) 4 && (cp_en M (cp_C b, ae_sym 1, (0, 0, ae_sym (2 + q.getD b 0)), false) && cp_en M (cp_S b, ae_num 5, (0, 0, ae_sym (6 + q.getD b 0)), false))
section CPX
variable {L : Nat} {xs : Nat → Int32}
theorem cp_eo {n : Nat} {ρ : Nat → Int} {M : List ae_M} {h : List am_E} (H : ∀ m ∈ M, ae_eo n ρ L xs h m) {p : Nat} {i x : ae_X} (q : cp_en M (p, i, (0, 0, x), false) = true) {j : Nat} (hj : ae_ev ρ i = (j : Int)) : ab_cv L xs h p j = ae_ev ρ x := by
  obtain ⟨u, hu, q⟩ := List.any_eq_true.mp q
  simp only [Bool.and_eq_true] at q
  obtain ⟨q1, q2, q3⟩ := q
  have q1 : u.1 = p := Nat.eq_of_beq_eq_true q1
  have q2 : u.2.1 = i := ae_xe_ok q2
  have q3 : u.2.2.1 = (0, 0, x) := ae_ve_ok q3
  obtain ⟨j', v, d, c, o⟩ := H u hu
  rw [q2] at d
  rw [q1] at c
  rw [q3] at o
  obtain ⟨y, rfl, dy⟩ := o
  have e : j' = j := by have := d.2; omega
  subst e
  unfold ab_cv
  rw [c]
  exact dy.2.symm
theorem cp_cv {e1 e2 : List am_E} (k1 : ae_hk false L xs e1) (k2 : ae_hk false L xs e2) {p : Nat} (hp : am_sd ap_b false p = true) (j : Nat) : ab_cv L xs (am_mX2 ap_b false e1 e2) p j = ab_cv L xs e1 p j := by
  unfold ab_cv
  rw [ap_c (s := false) k1.1.1 k2.1.1 hp]
theorem cp_sym (ρ : Nat → Int) (s : Nat) : ae_ev ρ (ae_sym s) = ρ s := by show (0 : Int) + (1 * ρ s + 0) = ρ s; omega
theorem cp_end {G : List am_E → Prop} {l : List (Int × List Nat)} {g : Nat} {c s : Nat → Int} {W : ab_W} (hW : W.r = 10) {t : ab_Tm} {k : ae_K} {M : List ae_M} {r : Int} {b : ae_X} (ht : t.st = (k, M, [], [], [], ([], some (0, 0, (r, []))), ([], some (0, 0, b)))) (hM0 : (M.all fun m => !m.2.2.2) = true) {q : Int × List Nat} (hq : q ∈ l) (hr : q.1 = r) (hM : cp_ok M q.2 = true) : ab_ok W G L xs (fun v1 _ e1 _ => cp_X l L xs g c s v1 e1) (cp_r L g c s) t :=
  ad_endT (a := (r, [])) (b := b) ae_fok_ok ht hM0 (fun ρ x y e1 e2 sr K hm d1 d2 k1 k2 _ _ => by
    have d1 : r + 0 = x.toInt := d1
    refine ⟨q, hq, ⟨x, rfl, by omega⟩, fun b hb => ?_⟩
    have h1 := List.all_eq_true.mp hM b (List.mem_range.mpr hb)
    simp only [Bool.and_eq_true] at h1
    obtain ⟨h0, h1, h2⟩ := h1
    have h0 := Nat.blt_eq.mp h0
    have pb := (by decide : ∀ b < 4, am_sd ap_b false (cp_C b) = true ∧ am_sd ap_b false (cp_S b) = true) b hb
    have r1 : ρ 1 = (g : Int) := sr 1 (by rw [hW]; decide)
    have c1 := cp_eo hm h1 (j := g) (by rw [cp_sym, r1])
    have c2 := cp_eo hm h2 (j := 5) rfl
    rw [cp_cv k1 k2 pb.1, cp_sym, sr (2 + q.2.getD b 0) (by rw [hW]; omega)] at c1
    rw [cp_cv k1 k2 pb.2, cp_sym, sr (6 + q.2.getD b 0) (by rw [hW]; omega)] at c2
    refine ⟨c1.trans ?_, c2.trans ?_⟩
    · rw [Nat.add_comm]
      show (bif Nat.blt (q.2.getD b 0) 4 then c (q.2.getD b 0) else s (q.2.getD b 0 - 4)) = _
      rw [Nat.blt_eq.mpr h0]
      rfl
    · rw [show 6 + q.2.getD b 0 = (q.2.getD b 0 + 4) + 2 by omega]
      show (bif Nat.blt (q.2.getD b 0 + 4) 4 then c (q.2.getD b 0 + 4) else s (q.2.getD b 0 + 4 - 4)) = _
      rw [show Nat.blt (q.2.getD b 0 + 4) 4 = false from by
        cases h : Nat.blt (q.2.getD b 0 + 4) 4 with
        | false => rfl
        | true => have := Nat.blt_eq.mp h; omega]
      show s (q.2.getD b 0 + 4 - 4) = _
      rw [show q.2.getD b 0 + 4 - 4 = q.2.getD b 0 by omega])
noncomputable def cp_l1 (l : List (Int × List Nat)) : Bool := l.all fun a => (List.range 4).all (fun b => Nat.blt (a.2.getD b 0) 4) && l.all fun b => !(ae_ie a.1 b.1) || ab_ql Nat.beq a.2 b.2
theorem cp_P {l : List (Int × List Nat)} (hl : cp_l1 l = true) {hA e : List am_E} {v : Option Value} (H : lw_dP L xs hA) (X : ∀ g, g < 30 → cp_X l L xs g (fun b => ab_cv L xs hA (cp_C b) g) (fun b => ab_cv L xs hA (cp_S b) 5) v e) : lw_dP L xs e := by
  obtain ⟨q, hq, ⟨x, hv, hx⟩, -⟩ := X 0 (by decide)
  have hl1 := List.all_eq_true.mp hl q hq
  rw [Bool.and_eq_true] at hl1
  have key : ∀ g, g < 30 → ∀ b, b < 4 → ab_cv L xs e (cp_C b) g = ab_cv L xs hA (cp_C (q.2.getD b 0)) g ∧ ab_cv L xs e (cp_S b) 5 = ab_cv L xs hA (cp_S (q.2.getD b 0)) 5 := by
    intro g hg b hb
    obtain ⟨q', hq', ⟨x', hv', hx'⟩, h⟩ := X g hg
    rw [hv] at hv'
    injection hv' with hv'
    injection hv' with hv'
    subst hv'
    have h1 := List.all_eq_true.mp hl1.2 q' hq'
    rw [show q.1 = q'.1 by omega, ae_ie_rf, Bool.not_true, Bool.false_or] at h1
    have h2 : q.2 = q'.2 := ab_ql_ok (fun _ _ h => Nat.eq_of_beq_eq_true h) h1
    rw [h2]
    exact h b hb
  intro b hb
  obtain ⟨i, hi, rfl⟩ : ∃ i, i < 4 ∧ b = (cp_S i, cp_C i) := by
    have hb : b ∈ ([(34, 39), (149, 154), (181, 186), (213, 218)] : List (Nat × Nat)) := hb
    simp only [List.mem_cons, List.not_mem_nil, or_false] at hb
    rcases hb with rfl | rfl | rfl | rfl
    · exact ⟨0, by decide, rfl⟩
    · exact ⟨1, by decide, rfl⟩
    · exact ⟨2, by decide, rfl⟩
    · exact ⟨3, by decide, rfl⟩
  have hσ := Nat.blt_eq.mp (List.all_eq_true.mp hl1.1 i (List.mem_range.mpr hi))
  have hm := (by decide : ∀ i < 4, (cp_S i, cp_C i) ∈ lw_pp) (q.2.getD i 0) hσ
  exact lw_d_eq (key 0 (by decide) i hi).2 (fun j hj => (key j hj i hi).1) (H _ hm)
/-- numbers of the days told -/
theorem cp_int {h : List am_E} (k : ae_hk false L xs h) {p j : Nat} (hp : 0 < p ∧ p ≤ ae_np ∧ j < (ae_sh p).2.2) (hi : (ae_iv p j).1 = 0) : ∃ x : Int32, ae_cell L xs h p j = some (.int x) ∧ x.toInt = ab_cv L xs h p j ∧ (ae_iv p j).2.1 ≤ x.toInt ∧ x.toInt ≤ (ae_iv p j).2.2 := by
  obtain ⟨x, a, -, b, c⟩ := rs_int k hp hi
  exact ⟨x, a, by unfold ab_cv; rw [a]; rfl, b, c⟩
theorem cp_ent {h : List am_E} (k : ae_hk false L xs h) {n : Nat} {ρ : Nat → Int} {p j s : Nat} {i : ae_X} (hp : 0 < p ∧ p ≤ ae_np ∧ j < (ae_sh p).2.2) (hi : (ae_iv p j).1 = 0) (hd : ae_dn n ρ i (j : Int)) (hs : s < n) (hv : ρ s = ab_cv L xs h p j) : ae_eo n ρ L xs h (p, i, (0, 0, ae_sym s), false) := by
  obtain ⟨x, a, b, -⟩ := cp_int k hp hi
  have d := ae_sym_dn (n := n) (ρ := ρ) hs
  rw [hv, ← b] at d
  exact ⟨j, .int x, hd, a, x, rfl, d⟩
end CPX

/-! cm -/
noncomputable def cm_l : List (Int × List Nat) := [((-1), [0, 1, 2, 3]), (1, [0, 0, 2, 3]), (2, [0, 1, 0, 3]), (3, [0, 1, 2, 0])]
theorem cm_X {L : Nat} {xs : Nat → Int32} (hL : L ≤ 3072) : ∀ (hA : List am_E) (vs : List Value) (d n : Nat) (v : Option Value) (e : List am_E), 640 ≤ d → ae_avs [] vs → ae_hk false L xs hA → lw_dP L xs hA → am_go L xs n d 194 0 (lv_args 0 (.ref 1 :: vs)) [] hA = some (v, e) → lw_dP L xs e := by
  intro hA vs d n v e hd hv kA H hrun
  obtain rfl := lw_avn hv
  refine cp_P (l := cm_l) (by decide +kernel) (v := v) H (fun g hg => ?_)
  have kM : ae_hk false L xs (am_mX2 ap_b false hA hA) := by rw [show am_mX2 ap_b false hA hA = hA from am_mix_self ap_b hA]; exact kA
  generalize hc : (fun b => ab_cv L xs hA (cp_C b) g) = c
  generalize hs : (fun b => ab_cv L xs hA (cp_S b) 5) = s
  have ec : ∀ b, c b = ab_cv L xs hA (cp_C b) g := fun b => by rw [← hc]
  have es : ∀ b, s b = ab_cv L xs hA (cp_S b) 5 := fun b => by rw [← hs]
  have rgC : ∀ b, b < 4 → -2147483648 ≤ c b ∧ c b ≤ 2147483647 := fun b hb => by
    obtain ⟨x, a1, a2, -⟩ := cp_int kA (p := cp_C b) (j := g) ((by decide +kernel : ∀ b < 4, 0 < cp_C b ∧ cp_C b ≤ ae_np ∧ 30 ≤ (ae_sh (cp_C b)).2.2) b hb |>.imp id fun h => ⟨h.1, by omega⟩) ((by decide +kernel : ∀ b < 4, ∀ g < 30, (ae_iv (cp_C b) g).1 = 0) b hb g hg)
    have := fd_i32 x
    rw [ec]
    omega
  have rgS : ∀ b, b < 4 → 0 ≤ s b ∧ s b ≤ 30 := fun b hb => by
    obtain ⟨x, a1, a2, a3, a4⟩ := cp_int kA (p := cp_S b) (j := 5) ((by decide +kernel : ∀ b < 4, 0 < cp_S b ∧ cp_S b ≤ ae_np ∧ 5 < (ae_sh (cp_S b)).2.2) b hb) ((by decide +kernel : ∀ b < 4, (ae_iv (cp_S b) 5).1 = 0) b hb)
    have := (by decide +kernel : ∀ b < 4, (ae_iv (cp_S b) 5).2.1 = 0 ∧ (ae_iv (cp_S b) 5).2.2 = 30) b hb
    rw [es]
    omega
  have enC : ∀ b, b < 4 → ae_eo 10 (cp_r L g c s) L xs (am_mX2 ap_b false hA hA) (cp_C b, ae_sym 1, (0, 0, ae_sym (b + 2)), false) := fun b hb => by
    rw [show am_mX2 ap_b false hA hA = hA from am_mix_self ap_b hA]
    exact cp_ent kA (j := g) ((by decide +kernel : ∀ b < 4, 0 < cp_C b ∧ cp_C b ≤ ae_np ∧ 30 ≤ (ae_sh (cp_C b)).2.2) b hb |>.imp id fun h => ⟨h.1, by omega⟩) ((by decide +kernel : ∀ b < 4, ∀ g < 30, (ae_iv (cp_C b) g).1 = 0) b hb g hg) (ae_sym_dn (ρ := cp_r L g c s) (by decide : 1 < 10)) (by omega) (by
      show (bif Nat.blt b 4 then c b else s (b - 4)) = _
      rw [Nat.blt_eq.mpr hb, ← ec]
      rfl)
  have enS : ∀ b, b < 4 → ae_eo 10 (cp_r L g c s) L xs (am_mX2 ap_b false hA hA) (cp_S b, ae_num 5, (0, 0, ae_sym (b + 4 + 2)), false) := fun b hb => by
    rw [show am_mX2 ap_b false hA hA = hA from am_mix_self ap_b hA]
    exact cp_ent kA (j := 5) ((by decide +kernel : ∀ b < 4, 0 < cp_S b ∧ cp_S b ≤ ae_np ∧ 5 < (ae_sh (cp_S b)).2.2) b hb) ((by decide +kernel : ∀ b < 4, (ae_iv (cp_S b) 5).1 = 0) b hb) (ae_num_dn _) (by omega) (by
      show (bif Nat.blt (b + 4) 4 then c (b + 4) else s (b + 4 - 4)) = _
      rw [show Nat.blt (b + 4) 4 = false from by
        cases h : Nat.blt (b + 4) 4 with
        | false => rfl
        | true => have := Nat.blt_eq.mp h; omega]
      show s (b + 4 - 4) = _
      rw [show b + 4 - 4 = b by omega, es])
  have start := cm_all hL (Q := fun v1 _ e1 _ => cp_X cm_l L xs g c s v1 e1) (r0 := cp_r L g c s) (bh_cons (P := fun t => ab_ok cm_W (nt_G L xs (cp_r L g c s)) L xs (fun v1 _ e1 _ => cp_X cm_l L xs g c s v1 e1) (cp_r L g c s) t) (cp_end rfl rfl (by decide +kernel) (q := ((-1), [0, 1, 2, 3])) List.mem_cons_self rfl (by decide +kernel)) (bh_cons (P := fun t => ab_ok cm_W (nt_G L xs (cp_r L g c s)) L xs (fun v1 _ e1 _ => cp_X cm_l L xs g c s v1 e1) (cp_r L g c s) t) (cp_end rfl rfl (by decide +kernel) (q := (1, [0, 0, 2, 3])) (List.mem_cons_of_mem _ List.mem_cons_self) rfl (by decide +kernel)) (bh_cons (P := fun t => ab_ok cm_W (nt_G L xs (cp_r L g c s)) L xs (fun v1 _ e1 _ => cp_X cm_l L xs g c s v1 e1) (cp_r L g c s) t) (cp_end rfl rfl (by decide +kernel) (q := (2, [0, 1, 0, 3])) (List.mem_cons_of_mem _ (List.mem_cons_of_mem _ List.mem_cons_self)) rfl (by decide +kernel)) (bh_cons (P := fun t => ab_ok cm_W (nt_G L xs (cp_r L g c s)) L xs (fun v1 _ e1 _ => cp_X cm_l L xs g c s v1 e1) (cp_r L g c s) t) (cp_end rfl rfl (by decide +kernel) (q := (3, [0, 1, 2, 0])) (List.mem_cons_of_mem _ (List.mem_cons_of_mem _ (List.mem_cons_of_mem _ List.mem_cons_self))) rfl (by decide +kernel)) bh_nil)))) cm_t0 (List.mem_append_left _ List.mem_cons_self) (cp_r L g c s) ([(d, 194, 0, lv_args 0 [.ref 1], [])], none) ([], some (.int 0)) hA hA ⟨⟨fun q hq => ?_, fun f hf => absurd hf List.not_mem_nil, fun d hd => absurd hd List.not_mem_nil⟩, ⟨⟨by decide, by omega⟩, rfl⟩, ad_hp_new kM (fun m hm => ?_), ⟨⟨⟨by show 12 ≤ d; omega, rfl, rfl, fun p hp => ?_, trivial⟩, trivial⟩, fun e => by cases e⟩, ⟨trivial, fun _ => ⟨.int 0, rfl, 0, rfl, ae_num_dn 0⟩⟩, aq_hs_of false kA, aq_hs_of true kA, trivial, ⟨_, fun t ht => absurd ht List.not_mem_nil, ae_fr_rf _ _ _ _, fun m hm => absurd hm List.not_mem_nil⟩⟩ (by decide) (fun _ _ => rfl)
  · obtain ⟨v1, e1, v2, e2, ⟨n1, g1⟩, -, -, -, -, X⟩ := start
    have := am_det g1 hrun
    injection this with h1 h2
    subst h1; subst h2
    exact X
  · have hq : q ∈ ([(1, 0, 29), (2, (-2147483648), 2147483647), (3, (-2147483648), 2147483647), (4, (-2147483648), 2147483647), (5, (-2147483648), 2147483647), (6, 0, 30), (7, 0, 30), (8, 0, 30), (9, 0, 30)] : ae_B) := hq
    simp only [List.mem_cons, List.not_mem_nil, or_false] at hq
    rcases hq with rfl | rfl | rfl | rfl | rfl | rfl | rfl | rfl | rfl
    · exact ⟨(by decide : 1 < 10), by show (0 : Int) ≤ (g : Int); omega, by show (g : Int) ≤ 29; omega⟩
    · exact ⟨(by decide : 2 < 10), rgC 0 (by decide)⟩
    · exact ⟨(by decide : 3 < 10), rgC 1 (by decide)⟩
    · exact ⟨(by decide : 4 < 10), rgC 2 (by decide)⟩
    · exact ⟨(by decide : 5 < 10), rgC 3 (by decide)⟩
    · exact ⟨(by decide : 6 < 10), rgS 0 (by decide)⟩
    · exact ⟨(by decide : 7 < 10), rgS 1 (by decide)⟩
    · exact ⟨(by decide : 8 < 10), rgS 2 (by decide)⟩
    · exact ⟨(by decide : 9 < 10), rgS 3 (by decide)⟩
  · have hm : m ∈ ([(149, (5, []), (0, 0, (0, [(7, 1)])), false), (181, (5, []), (0, 0, (0, [(8, 1)])), false), (213, (5, []), (0, 0, (0, [(9, 1)])), false), (34, (5, []), (0, 0, (0, [(6, 1)])), false), (154, (0, [(1, 1)]), (0, 0, (0, [(3, 1)])), false), (186, (0, [(1, 1)]), (0, 0, (0, [(4, 1)])), false), (218, (0, [(1, 1)]), (0, 0, (0, [(5, 1)])), false), (39, (0, [(1, 1)]), (0, 0, (0, [(2, 1)])), false)] : List ae_M) := hm
    simp only [List.mem_cons, List.not_mem_nil, or_false] at hm
    rcases hm with rfl | rfl | rfl | rfl | rfl | rfl | rfl | rfl
    · exact enS 1 (by decide)
    · exact enS 2 (by decide)
    · exact enS 3 (by decide)
    · exact enS 0 (by decide)
    · exact enC 1 (by decide)
    · exact enC 2 (by decide)
    · exact enC 3 (by decide)
    · exact enC 0 (by decide)
  · rw [List.mem_singleton.mp hp]
    exact ⟨.ref 1, rfl, rfl⟩

/-! cb -/
noncomputable def cb_l : List (Int × List Nat) := [((-1), [0, 1, 2, 3]), (0, [1, 1, 2, 3]), (1, [2, 1, 2, 3]), (2, [3, 1, 2, 3])]
theorem cb_X {L : Nat} {xs : Nat → Int32} (hL : L ≤ 3072) : ∀ (hA : List am_E) (vs : List Value) (d n : Nat) (v : Option Value) (e : List am_E), 640 ≤ d → ae_avs [] vs → ae_hk false L xs hA → lw_dP L xs hA → am_go L xs n d 195 0 (lv_args 0 (.ref 1 :: vs)) [] hA = some (v, e) → lw_dP L xs e := by
  intro hA vs d n v e hd hv kA H hrun
  obtain rfl := lw_avn hv
  refine cp_P (l := cb_l) (by decide +kernel) (v := v) H (fun g hg => ?_)
  have kM : ae_hk false L xs (am_mX2 ap_b false hA hA) := by rw [show am_mX2 ap_b false hA hA = hA from am_mix_self ap_b hA]; exact kA
  generalize hc : (fun b => ab_cv L xs hA (cp_C b) g) = c
  generalize hs : (fun b => ab_cv L xs hA (cp_S b) 5) = s
  have ec : ∀ b, c b = ab_cv L xs hA (cp_C b) g := fun b => by rw [← hc]
  have es : ∀ b, s b = ab_cv L xs hA (cp_S b) 5 := fun b => by rw [← hs]
  have rgC : ∀ b, b < 4 → -2147483648 ≤ c b ∧ c b ≤ 2147483647 := fun b hb => by
    obtain ⟨x, a1, a2, -⟩ := cp_int kA (p := cp_C b) (j := g) ((by decide +kernel : ∀ b < 4, 0 < cp_C b ∧ cp_C b ≤ ae_np ∧ 30 ≤ (ae_sh (cp_C b)).2.2) b hb |>.imp id fun h => ⟨h.1, by omega⟩) ((by decide +kernel : ∀ b < 4, ∀ g < 30, (ae_iv (cp_C b) g).1 = 0) b hb g hg)
    have := fd_i32 x
    rw [ec]
    omega
  have rgS : ∀ b, b < 4 → 0 ≤ s b ∧ s b ≤ 30 := fun b hb => by
    obtain ⟨x, a1, a2, a3, a4⟩ := cp_int kA (p := cp_S b) (j := 5) ((by decide +kernel : ∀ b < 4, 0 < cp_S b ∧ cp_S b ≤ ae_np ∧ 5 < (ae_sh (cp_S b)).2.2) b hb) ((by decide +kernel : ∀ b < 4, (ae_iv (cp_S b) 5).1 = 0) b hb)
    have := (by decide +kernel : ∀ b < 4, (ae_iv (cp_S b) 5).2.1 = 0 ∧ (ae_iv (cp_S b) 5).2.2 = 30) b hb
    rw [es]
    omega
  have enC : ∀ b, b < 4 → ae_eo 10 (cp_r L g c s) L xs (am_mX2 ap_b false hA hA) (cp_C b, ae_sym 1, (0, 0, ae_sym (b + 2)), false) := fun b hb => by
    rw [show am_mX2 ap_b false hA hA = hA from am_mix_self ap_b hA]
    exact cp_ent kA (j := g) ((by decide +kernel : ∀ b < 4, 0 < cp_C b ∧ cp_C b ≤ ae_np ∧ 30 ≤ (ae_sh (cp_C b)).2.2) b hb |>.imp id fun h => ⟨h.1, by omega⟩) ((by decide +kernel : ∀ b < 4, ∀ g < 30, (ae_iv (cp_C b) g).1 = 0) b hb g hg) (ae_sym_dn (ρ := cp_r L g c s) (by decide : 1 < 10)) (by omega) (by
      show (bif Nat.blt b 4 then c b else s (b - 4)) = _
      rw [Nat.blt_eq.mpr hb, ← ec]
      rfl)
  have enS : ∀ b, b < 4 → ae_eo 10 (cp_r L g c s) L xs (am_mX2 ap_b false hA hA) (cp_S b, ae_num 5, (0, 0, ae_sym (b + 4 + 2)), false) := fun b hb => by
    rw [show am_mX2 ap_b false hA hA = hA from am_mix_self ap_b hA]
    exact cp_ent kA (j := 5) ((by decide +kernel : ∀ b < 4, 0 < cp_S b ∧ cp_S b ≤ ae_np ∧ 5 < (ae_sh (cp_S b)).2.2) b hb) ((by decide +kernel : ∀ b < 4, (ae_iv (cp_S b) 5).1 = 0) b hb) (ae_num_dn _) (by omega) (by
      show (bif Nat.blt (b + 4) 4 then c (b + 4) else s (b + 4 - 4)) = _
      rw [show Nat.blt (b + 4) 4 = false from by
        cases h : Nat.blt (b + 4) 4 with
        | false => rfl
        | true => have := Nat.blt_eq.mp h; omega]
      show s (b + 4 - 4) = _
      rw [show b + 4 - 4 = b by omega, es])
  have start := cb_all hL (Q := fun v1 _ e1 _ => cp_X cb_l L xs g c s v1 e1) (r0 := cp_r L g c s) (bh_cons (P := fun t => ab_ok cb_W (nt_G L xs (cp_r L g c s)) L xs (fun v1 _ e1 _ => cp_X cb_l L xs g c s v1 e1) (cp_r L g c s) t) (cp_end rfl rfl (by decide +kernel) (q := ((-1), [0, 1, 2, 3])) List.mem_cons_self rfl (by decide +kernel)) (bh_cons (P := fun t => ab_ok cb_W (nt_G L xs (cp_r L g c s)) L xs (fun v1 _ e1 _ => cp_X cb_l L xs g c s v1 e1) (cp_r L g c s) t) (cp_end rfl rfl (by decide +kernel) (q := (0, [1, 1, 2, 3])) (List.mem_cons_of_mem _ List.mem_cons_self) rfl (by decide +kernel)) (bh_cons (P := fun t => ab_ok cb_W (nt_G L xs (cp_r L g c s)) L xs (fun v1 _ e1 _ => cp_X cb_l L xs g c s v1 e1) (cp_r L g c s) t) (cp_end rfl rfl (by decide +kernel) (q := (1, [2, 1, 2, 3])) (List.mem_cons_of_mem _ (List.mem_cons_of_mem _ List.mem_cons_self)) rfl (by decide +kernel)) (bh_cons (P := fun t => ab_ok cb_W (nt_G L xs (cp_r L g c s)) L xs (fun v1 _ e1 _ => cp_X cb_l L xs g c s v1 e1) (cp_r L g c s) t) (cp_end rfl rfl (by decide +kernel) (q := (2, [3, 1, 2, 3])) (List.mem_cons_of_mem _ (List.mem_cons_of_mem _ (List.mem_cons_of_mem _ List.mem_cons_self))) rfl (by decide +kernel)) bh_nil)))) cb_t0 (List.mem_append_left _ List.mem_cons_self) (cp_r L g c s) ([(d, 195, 0, lv_args 0 [.ref 1], [])], none) ([], some (.int 0)) hA hA ⟨⟨fun q hq => ?_, fun f hf => absurd hf List.not_mem_nil, fun d hd => absurd hd List.not_mem_nil⟩, ⟨⟨by decide, by omega⟩, rfl⟩, ad_hp_new kM (fun m hm => ?_), ⟨⟨⟨by show 12 ≤ d; omega, rfl, rfl, fun p hp => ?_, trivial⟩, trivial⟩, fun e => by cases e⟩, ⟨trivial, fun _ => ⟨.int 0, rfl, 0, rfl, ae_num_dn 0⟩⟩, aq_hs_of false kA, aq_hs_of true kA, trivial, ⟨_, fun t ht => absurd ht List.not_mem_nil, ae_fr_rf _ _ _ _, fun m hm => absurd hm List.not_mem_nil⟩⟩ (by decide) (fun _ _ => rfl)
  · obtain ⟨v1, e1, v2, e2, ⟨n1, g1⟩, -, -, -, -, X⟩ := start
    have := am_det g1 hrun
    injection this with h1 h2
    subst h1; subst h2
    exact X
  · have hq : q ∈ ([(1, 0, 29), (2, (-2147483648), 2147483647), (3, (-2147483648), 2147483647), (4, (-2147483648), 2147483647), (5, (-2147483648), 2147483647), (6, 0, 30), (7, 0, 30), (8, 0, 30), (9, 0, 30)] : ae_B) := hq
    simp only [List.mem_cons, List.not_mem_nil, or_false] at hq
    rcases hq with rfl | rfl | rfl | rfl | rfl | rfl | rfl | rfl | rfl
    · exact ⟨(by decide : 1 < 10), by show (0 : Int) ≤ (g : Int); omega, by show (g : Int) ≤ 29; omega⟩
    · exact ⟨(by decide : 2 < 10), rgC 0 (by decide)⟩
    · exact ⟨(by decide : 3 < 10), rgC 1 (by decide)⟩
    · exact ⟨(by decide : 4 < 10), rgC 2 (by decide)⟩
    · exact ⟨(by decide : 5 < 10), rgC 3 (by decide)⟩
    · exact ⟨(by decide : 6 < 10), rgS 0 (by decide)⟩
    · exact ⟨(by decide : 7 < 10), rgS 1 (by decide)⟩
    · exact ⟨(by decide : 8 < 10), rgS 2 (by decide)⟩
    · exact ⟨(by decide : 9 < 10), rgS 3 (by decide)⟩
  · have hm : m ∈ ([(149, (5, []), (0, 0, (0, [(7, 1)])), false), (181, (5, []), (0, 0, (0, [(8, 1)])), false), (213, (5, []), (0, 0, (0, [(9, 1)])), false), (34, (5, []), (0, 0, (0, [(6, 1)])), false), (154, (0, [(1, 1)]), (0, 0, (0, [(3, 1)])), false), (186, (0, [(1, 1)]), (0, 0, (0, [(4, 1)])), false), (218, (0, [(1, 1)]), (0, 0, (0, [(5, 1)])), false), (39, (0, [(1, 1)]), (0, 0, (0, [(2, 1)])), false)] : List ae_M) := hm
    simp only [List.mem_cons, List.not_mem_nil, or_false] at hm
    rcases hm with rfl | rfl | rfl | rfl | rfl | rfl | rfl | rfl
    · exact enS 1 (by decide)
    · exact enS 2 (by decide)
    · exact enS 3 (by decide)
    · exact enS 0 (by decide)
    · exact enC 1 (by decide)
    · exact enC 2 (by decide)
    · exact enC 3 (by decide)
    · exact enC 0 (by decide)
  · rw [List.mem_singleton.mp hp]
    exact ⟨.ref 1, rfl, rfl⟩

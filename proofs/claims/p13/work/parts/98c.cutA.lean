/-! Cutting a token, as a run of the class's alone, and what the reference's next() would see there -/
section AQD
variable {L : Nat} {xs : Nat → Int32} {hA hB : List am_E}
theorem aq_hs_of {ex : Bool} (s : Bool) (k : ae_hk ex L xs hA) : ap_hx ex L xs s hA := ⟨k.1, fun p j v hp _ hc => k.2.1 p j v hp hc, fun f hf _ i hi => k.2.2 f hf i hi⟩
theorem aq_mixhk {ex : Bool} (kA : ae_hk ex L xs hA) (kB : ae_hk ex L xs hB) : ae_hk ex L xs (am_mX2 ap_b false hA hB) := by
  have h0 : ae_hp ex 0 (fun _ => 0) L xs [] (am_mX2 ap_b false hB hB) := by
    show ae_hp ex 0 (fun _ => 0) L xs [] (am_mix ap_b hB hB)
    rw [am_mix_self]
    exact ae_hp_of 0 kB
  have h1 := ap_back (M1 := []) h0 kB.1.1 kB.1.1 (Nat.le_refl 0) (ae_ag_rf 0 _) (ae_hp_of 0 kA) (fun q hq => absurd hq List.not_mem_nil)
  refine ⟨h1.1, fun p j v hp hc => ?_, fun f hf i hi => ?_⟩
  · rcases h1.2.2.1 p j v hp hc with g | ⟨m, m1, -⟩ | g
    · exact Or.inl g
    · exact absurd m1 List.not_mem_nil
    · exact Or.inr g
  · rcases h1.2.2.2 f hf i hi with g | ⟨o, -, m, m1, -⟩ | g
    · exact Or.inl g
    · exact absurd m1 List.not_mem_nil
    · exact Or.inr g
theorem aq_int {ex : Bool} {h : List am_E} (k : ae_hk ex L xs h) {p j : Nat} (hp : 0 < p ∧ p ≤ ae_np ∧ j < (ae_sh p).2.2) (hi : (ae_iv p j).1 = 0) (hn : Nat.beq p ae_exp = false := by decide) : ∃ x : Int32, ae_cell L xs h p j = some (.int x) ∧ x.toInt = aq_ci L xs h p j ∧ (ae_iv p j).2.1 ≤ x.toInt ∧ x.toInt ≤ (ae_iv p j).2.2 := by
  obtain ⟨v, hv⟩ := ae_cell_ex (L := L) (xs := xs) k.1 hp.1 hp.2.1 hp.2.2
  rcases k.2.1 p j v hp.1 hv with g | g
  · unfold ae_io at g
    rw [hi] at g
    obtain ⟨x, rfl, h1, h2⟩ := g
    exact ⟨x, hv, by unfold aq_ci; rw [hv]; rfl, h1, h2⟩
  · have g2 := g.2; rw [ae_ine_ne hn j] at g2; cases g2
theorem aq_lng {ex : Bool} {h : List am_E} (k : ae_hk ex L xs h) {p j : Nat} (hp : 0 < p ∧ p ≤ ae_np ∧ j < (ae_sh p).2.2) (hi : (ae_iv p j).1 = 1) (hn : Nat.beq p ae_exp = false := by decide) : ∃ x : Int64, ae_cell L xs h p j = some (.long x) ∧ x.toInt = aq_cj L xs h p j := by
  obtain ⟨v, hv⟩ := ae_cell_ex (L := L) (xs := xs) k.1 hp.1 hp.2.1 hp.2.2
  rcases k.2.1 p j v hp.1 hv with g | g
  · unfold ae_io at g
    rw [hi] at g
    obtain ⟨x, rfl, h1, h2⟩ := g
    exact ⟨x, hv, by unfold aq_cj; rw [hv]⟩
  · have g2 := g.2; rw [ae_ine_ne hn j] at g2; cases g2
theorem aq_eo {ex : Bool} {h : List am_E} (k : ae_hk ex L xs h) {n : Nat} {ρ : Nat → Int} {p : Nat} {i e : ae_X} {j : Nat} (hp : 0 < p ∧ p ≤ ae_np ∧ j < (ae_sh p).2.2) (hi : (ae_iv p j).1 = 0) (wi : ae_wb n i.2 = true) (we : ae_wb n e.2 = true) (vi : ae_ev ρ i = (j : Int)) (ve : ae_ev ρ e = aq_ci L xs h p j) (hn : Nat.beq p ae_exp = false := by decide) : ae_eo n ρ L xs h (p, i, (0, 0, e), false) := by
  obtain ⟨x, h1, h2, -⟩ := aq_int k hp hi hn
  exact ⟨j, .int x, ⟨ae_wb_ok wi, vi⟩, h1, x, rfl, ae_wb_ok we, by show ae_ev ρ e = x.toInt; rw [ve, h2]⟩
theorem aq_eol {ex : Bool} {h : List am_E} (k : ae_hk ex L xs h) {n : Nat} {ρ : Nat → Int} {p : Nat} {i e : ae_X} {j : Nat} (hp : 0 < p ∧ p ≤ ae_np ∧ j < (ae_sh p).2.2) (hi : (ae_iv p j).1 = 1) (wi : ae_wb n i.2 = true) (we : ae_wb n e.2 = true) (vi : ae_ev ρ i = (j : Int)) (ve : ae_ev ρ e = aq_cj L xs h p j) (hn : Nat.beq p ae_exp = false := by decide) : ae_eo n ρ L xs h (p, i, (1, 0, e), false) := by
  obtain ⟨x, h1, h2⟩ := aq_lng k hp hi hn
  exact ⟨j, .long x, ⟨ae_wb_ok wi, vi⟩, h1, x, rfl, ae_wb_ok we, by show ae_ev ρ e = x.toInt; rw [ve, h2]⟩
theorem aq_ciA (e1 : hA.length = ae_np) (e2 : hB.length = ae_np) {p j : Nat} (hp : Nat.blt p 219 = true) : aq_ci L xs (am_mX2 ap_b false hA hB) p j = aq_ci L xs hA p j := by
  unfold aq_ci
  rw [ap_c (s := false) e1 e2 (show am_sd ap_b false p = true from hp)]
theorem aq_ciB (e1 : hA.length = ae_np) (e2 : hB.length = ae_np) {p j : Nat} (hp : Nat.blt p 219 = false) : aq_ci L xs (am_mX2 ap_b false hA hB) p j = aq_ci L xs hB p j := by
  unfold aq_ci
  rw [ap_cx (s := false) e1 e2 (show am_sd ap_b false p = false from hp)]
theorem aq_cjA (e1 : hA.length = ae_np) (e2 : hB.length = ae_np) {p j : Nat} (hp : Nat.blt p 219 = true) : aq_cj L xs (am_mX2 ap_b false hA hB) p j = aq_cj L xs hA p j := by
  unfold aq_cj
  rw [ap_c (s := false) e1 e2 (show am_sd ap_b false p = true from hp)]
theorem aq_cjB (e1 : hA.length = ae_np) (e2 : hB.length = ae_np) {p j : Nat} (hp : Nat.blt p 219 = false) : aq_cj L xs (am_mX2 ap_b false hA hB) p j = aq_cj L xs hB p j := by
  unfold aq_cj
  rw [ap_cx (s := false) e1 e2 (show am_sd ap_b false p = false from hp)]
noncomputable def aq_r4 (L : Nat) (t n p j a b v : Int) : Nat → Int
  | 0 => (L : Int)
  | 1 => t
  | 2 => n
  | 3 => p
  | 4 => j
  | 5 => a
  | 6 => b
  | _ => v
/-- the two heaps at the start of a token -/
noncomputable def aq_at0 (L : Nat) (xs : Nat → Int32) (hA hB : List am_E) (t n p : Int) : Prop := ae_hk true L xs hA ∧ ae_hk true L xs hB ∧ (∀ j, j < 900 → ae_cell L xs hB 223 j = ae_cell L xs hA 4 j) ∧ aq_ci L xs hA 3 4 = t ∧ aq_ci L xs hA 3 6 = n ∧ aq_ci L xs hA 3 7 = p ∧ aq_ci L xs hB 219 9 = n ∧ aq_ci L xs hB 219 16 = p ∧ 0 ≤ t ∧ t ≤ 900 ∧ 0 ≤ p ∧ p ≤ n ∧ n ≤ 900
theorem aq_cut (hr : ae_rok = true) (hf : ae_fok = true) (hL : L ≤ 3072) {t n p : Int} (A : aq_at0 L xs hA hB t n p) {d d2 : Nat} {lw lw2 : am_L} (hd : 20 ≤ d) (hd2 : 20 ≤ d2) (l1 : am_lk lw 0 = some (.ref 3)) (l2 : am_lk lw2 0 = some (.ref 219)) :
    ap_end aq_mo L xs (aq_Qc L xs t n p) ([(d, 54, 0, lw, [])], none) ([(d2, 219, 0, lw2, [])], none) hA hB := by
  obtain ⟨kA, kB, mir, c1, c2, c3, c4, c5, t1, t2, p1, p2, n1⟩ := A
  have kM := aq_mixhk kA kB
  have eA := kA.1.1
  have eB := kB.1.1
  refine aq_all (r0 := aq_r4 L t n p 0 0 0 0) hr hf hL (aq_r4 L t n p 0 0 0 0) _ _ hA hB ⟨⟨fun q hq => ?_, fun f hf' => ?_, fun d hd => absurd hd List.not_mem_nil⟩, ⟨⟨by decide, by omega⟩, rfl⟩, fun c hc => absurd hc List.not_mem_nil, ?_, ⟨⟨⟨hd, rfl, rfl, ?_, trivial⟩, trivial⟩, fun e => by cases e⟩, ⟨⟨⟨hd2, rfl, rfl, ?_, trivial⟩, trivial⟩, fun e => by cases e⟩, aq_hs_of false kA, aq_hs_of true kB, fun j hj => ?_⟩ (by decide) (fun _ _ => rfl)
  · have hq : q ∈ ([(1, 0, 900), (2, 0, 900), (3, 0, 900)] : ae_B) := hq
    simp only [List.mem_cons, List.not_mem_nil, or_false] at hq
    rcases hq with rfl | rfl | rfl
    · exact ⟨(by decide : 1 < 4), t1, t2⟩
    · exact ⟨(by decide : 2 < 4), by show 0 ≤ n; omega, n1⟩
    · exact ⟨(by decide : 3 < 4), p1, by show p ≤ 900; omega⟩
  · have hf' : f ∈ ([(0, [(2, -1), (3, 1)])] : List ae_X) := hf'
    rw [List.mem_singleton.mp hf']
    refine ⟨⟨by decide, by decide, trivial⟩, ?_⟩
    show (0 : Int) + (-1 * n + (1 * p + 0)) ≤ 0
    omega
  · have := ae_hp_add (A := aq_s0.st.m) (ae_hp_of (ρ := aq_r4 L t n p 0 0 0 0) 4 kM) (fun m hm => ?_)
    · rw [List.append_nil] at this; exact this
    · have hm : m ∈ ([(3, (4, []), (0, 0, (0, [(1, 1)])), false), (3, (6, []), (0, 0, (0, [(2, 1)])), false), (219, (9, []), (0, 0, (0, [(2, 1)])), false), (3, (7, []), (0, 0, (0, [(3, 1)])), false), (219, (16, []), (0, 0, (0, [(3, 1)])), false)] : List ae_M) := hm
      simp only [List.mem_cons, List.not_mem_nil, or_false] at hm
      rcases hm with rfl | rfl | rfl | rfl | rfl
      · exact aq_eo kM (j := 4) ⟨by decide, by decide, by decide⟩ rfl rfl rfl rfl (by rw [aq_ciA eA eB rfl, c1]; show (0 : Int) + (1 * t + 0) = t; omega)
      · exact aq_eo kM (j := 6) ⟨by decide, by decide, by decide⟩ rfl rfl rfl rfl (by rw [aq_ciA eA eB rfl, c2]; show (0 : Int) + (1 * n + 0) = n; omega)
      · exact aq_eo kM (j := 9) ⟨by decide, by decide, by decide⟩ rfl rfl rfl rfl (by rw [aq_ciB eA eB rfl, c4]; show (0 : Int) + (1 * n + 0) = n; omega)
      · exact aq_eo kM (j := 7) ⟨by decide, by decide, by decide⟩ rfl rfl rfl rfl (by rw [aq_ciA eA eB rfl, c3]; show (0 : Int) + (1 * p + 0) = p; omega)
      · exact aq_eo kM (j := 16) ⟨by decide, by decide, by decide⟩ rfl rfl rfl rfl (by rw [aq_ciB eA eB rfl, c5]; show (0 : Int) + (1 * p + 0) = p; omega)
  · intro q hq
    rw [List.mem_singleton.mp hq]
    exact ⟨_, l1, rfl⟩
  · intro q hq
    rw [List.mem_singleton.mp hq]
    exact ⟨_, l2, rfl⟩
  · rw [ap_cx (s := false) eA eB rfl, ap_c (s := false) eA eB rfl]
    exact mir j hj
theorem aq_cutj (hr : ae_rok = true) (hf : ae_fok = true) (hL : L ≤ 3072) {t n p : Int} (A : aq_at0 L xs hA hB t n p) {j : Nat} (hj : (j : Int) < t) {d d2 : Nat} {lw lw2 : am_L} (hd : 20 ≤ d) (hd2 : 20 ≤ d2) (l1 : am_lk lw 0 = some (.ref 3)) (l2 : am_lk lw2 0 = some (.ref 219)) :
    ap_end aqj_mo L xs (fun v1 v2 e1 e2 => aq_Qc L xs t n p v1 v2 e1 e2 ∧ aq_ci L xs (am_mX2 ap_b false e1 e2) 5 j = aq_ci L xs hA 5 j ∧ aq_ci L xs (am_mX2 ap_b false e1 e2) 6 j = aq_ci L xs hA 6 j ∧ aq_cj L xs (am_mX2 ap_b false e1 e2) 7 j = aq_cj L xs hA 7 j) ([(d, 54, 0, lw, [])], none) ([(d2, 219, 0, lw2, [])], none) hA hB := by
  obtain ⟨kA, kB, mir, c1, c2, c3, c4, c5, t1, t2, p1, p2, n1⟩ := A
  have kM := aq_mixhk kA kB
  have eA := kA.1.1
  have eB := kB.1.1
  have hj9 : j < 901 := by omega
  obtain ⟨a, a1, a2, a3, a4⟩ := aq_int kA (p := 5) (j := j) ⟨by decide, by decide, by show j < 901; exact hj9⟩ rfl
  obtain ⟨b, b1, b2, b3, b4⟩ := aq_int kA (p := 6) (j := j) ⟨by decide, by decide, by show j < 901; exact hj9⟩ rfl
  obtain ⟨v, v1, v2⟩ := aq_lng kA (p := 7) (j := j) ⟨by decide, by decide, by show j < 901; exact hj9⟩ rfl
  have v3 := Int64.le_toInt v
  have v4 := Int64.toInt_lt v
  have key := aqj_all (r0 := aq_r4 L t n p j (aq_ci L xs hA 5 j) (aq_ci L xs hA 6 j) (aq_cj L xs hA 7 j)) hr hf hL (aq_r4 L t n p j (aq_ci L xs hA 5 j) (aq_ci L xs hA 6 j) (aq_cj L xs hA 7 j)) ([(d, 54, 0, lw, [])], none) ([(d2, 219, 0, lw2, [])], none) hA hB ⟨⟨fun q hq => ?_, fun f hf' => ?_, fun d hd => absurd hd List.not_mem_nil⟩, ⟨⟨by decide, by omega⟩, rfl⟩, fun c hc => absurd hc List.not_mem_nil, ?_, ⟨⟨⟨hd, rfl, rfl, ?_, trivial⟩, trivial⟩, fun e => by cases e⟩, ⟨⟨⟨hd2, rfl, rfl, ?_, trivial⟩, trivial⟩, fun e => by cases e⟩, aq_hs_of false kA, aq_hs_of true kB, fun j hj => ?_⟩ (by decide) (fun _ _ => rfl)
  · exact key
  · have hq : q ∈ ([(1, 0, 900), (2, 0, 900), (3, 0, 900), (4, 0, 899), (5, (-2147483648), 2147483647), (6, (-2147483648), 2147483647), (7, (-9223372036854775808), 9223372036854775807)] : ae_B) := hq
    simp only [List.mem_cons, List.not_mem_nil, or_false] at hq
    rcases hq with rfl | rfl | rfl | rfl | rfl | rfl | rfl
    · exact ⟨(by decide : 1 < 8), t1, t2⟩
    · exact ⟨(by decide : 2 < 8), by show 0 ≤ n; omega, n1⟩
    · exact ⟨(by decide : 3 < 8), p1, by show p ≤ 900; omega⟩
    · exact ⟨(by decide : 4 < 8), by show (0 : Int) ≤ (j : Int); omega, by show (j : Int) ≤ 899; omega⟩
    · exact ⟨(by decide : 5 < 8), by show _ ≤ aq_ci L xs hA 5 j; rw [← a2]; exact a3, by show aq_ci L xs hA 5 j ≤ _; rw [← a2]; exact a4⟩
    · exact ⟨(by decide : 6 < 8), by show _ ≤ aq_ci L xs hA 6 j; rw [← b2]; exact b3, by show aq_ci L xs hA 6 j ≤ _; rw [← b2]; exact b4⟩
    · exact ⟨(by decide : 7 < 8), by show (-9223372036854775808 : Int) ≤ aq_cj L xs hA 7 j; rw [← v2]; exact v3, by show aq_cj L xs hA 7 j ≤ 9223372036854775807; rw [← v2]; omega⟩
  · have hf' : f ∈ ([(0, [(2, -1), (3, 1)]), (1, [(1, -1), (4, 1)])] : List ae_X) := hf'
    simp only [List.mem_cons, List.not_mem_nil, or_false] at hf'
    rcases hf' with rfl | rfl
    · refine ⟨⟨by decide, by decide, trivial⟩, ?_⟩
      show (0 : Int) + (-1 * n + (1 * p + 0)) ≤ 0
      omega
    · refine ⟨⟨by decide, by decide, trivial⟩, ?_⟩
      show (1 : Int) + (-1 * t + (1 * (j : Int) + 0)) ≤ 0
      omega
  · have := ae_hp_add (A := aqj_s0.st.m) (ae_hp_of (ρ := aq_r4 L t n p j (aq_ci L xs hA 5 j) (aq_ci L xs hA 6 j) (aq_cj L xs hA 7 j)) 8 kM) (fun m hm => ?_)
    · rw [List.append_nil] at this; exact this
    · have hm : m ∈ ([(5, (0, [(4, 1)]), (0, 0, (0, [(5, 1)])), false), (6, (0, [(4, 1)]), (0, 0, (0, [(6, 1)])), false), (7, (0, [(4, 1)]), (1, 0, (0, [(7, 1)])), false), (3, (4, []), (0, 0, (0, [(1, 1)])), false), (3, (6, []), (0, 0, (0, [(2, 1)])), false), (219, (9, []), (0, 0, (0, [(2, 1)])), false), (3, (7, []), (0, 0, (0, [(3, 1)])), false), (219, (16, []), (0, 0, (0, [(3, 1)])), false)] : List ae_M) := hm
      simp only [List.mem_cons, List.not_mem_nil, or_false] at hm
      rcases hm with rfl | rfl | rfl | rfl | rfl | rfl | rfl | rfl
      · exact aq_eo kM (j := j) ⟨by decide, by decide, by show j < 901; exact hj9⟩ rfl rfl rfl (by show (0 : Int) + (1 * (j : Int) + 0) = (j : Int); omega) (by rw [aq_ciA eA eB rfl]; show (0 : Int) + (1 * aq_ci L xs hA 5 j + 0) = _; omega)
      · exact aq_eo kM (j := j) ⟨by decide, by decide, by show j < 901; exact hj9⟩ rfl rfl rfl (by show (0 : Int) + (1 * (j : Int) + 0) = (j : Int); omega) (by rw [aq_ciA eA eB rfl]; show (0 : Int) + (1 * aq_ci L xs hA 6 j + 0) = _; omega)
      · exact aq_eol kM (j := j) ⟨by decide, by decide, by show j < 901; exact hj9⟩ rfl rfl rfl (by show (0 : Int) + (1 * (j : Int) + 0) = (j : Int); omega) (by rw [aq_cjA eA eB rfl]; show (0 : Int) + (1 * aq_cj L xs hA 7 j + 0) = _; omega)
      · exact aq_eo kM (j := 4) ⟨by decide, by decide, by decide⟩ rfl rfl rfl rfl (by rw [aq_ciA eA eB rfl, c1]; show (0 : Int) + (1 * t + 0) = t; omega)
      · exact aq_eo kM (j := 6) ⟨by decide, by decide, by decide⟩ rfl rfl rfl rfl (by rw [aq_ciA eA eB rfl, c2]; show (0 : Int) + (1 * n + 0) = n; omega)
      · exact aq_eo kM (j := 9) ⟨by decide, by decide, by decide⟩ rfl rfl rfl rfl (by rw [aq_ciB eA eB rfl, c4]; show (0 : Int) + (1 * n + 0) = n; omega)
      · exact aq_eo kM (j := 7) ⟨by decide, by decide, by decide⟩ rfl rfl rfl rfl (by rw [aq_ciA eA eB rfl, c3]; show (0 : Int) + (1 * p + 0) = p; omega)
      · exact aq_eo kM (j := 16) ⟨by decide, by decide, by decide⟩ rfl rfl rfl rfl (by rw [aq_ciB eA eB rfl, c5]; show (0 : Int) + (1 * p + 0) = p; omega)
  · intro q hq
    rw [List.mem_singleton.mp hq]
    exact ⟨_, l1, rfl⟩
  · intro q hq
    rw [List.mem_singleton.mp hq]
    exact ⟨_, l2, rfl⟩
  · rw [ap_cx (s := false) eA eB rfl, ap_c (s := false) eA eB rfl]
    exact mir j hj
end AQD

/-! feed, both: the cases put together -/
section FDA
variable {L : Nat} {xs : Nat → Int32}
noncomputable def fd_Q (L : Nat) (xs : Nat → Int32) (j : Nat) (v1 v2 : Option Value) (e1 e2 : List am_E) : Prop := ae_hk false L xs e1 ∧ ae_hk false L xs e2 ∧ aq_ci L xs e1 3 8 = aq_ci L xs e2 219 8 ∧ ae_cell L xs e2 223 j = ae_cell L xs e1 4 j ∧ ∃ x : Int32, v1 = some (.int x) ∧ v2 = some (.int x)
noncomputable def fd_r (L : Nat) (J b a1 a2 a3 a4 a5 s : Int) : Nat → Int
  | 0 => (L : Int)
  | 1 => J
  | 2 => b
  | 3 => a1
  | 4 => a2
  | 5 => a3
  | 6 => a4
  | 7 => a5
  | _ => s
/-- all have ended: the watched byte is the same -/
theorem fd_end {W : ab_W} (hW : W.r = 2) {r0 : Nat → Int} {J : Nat} (h1 : r0 1 = (J : Int)) : ab_ok W (fun _ => True) L xs (fd_Q L xs J) r0 fd_t :=
  ad_endT (a := (0, [(4, 1)])) (b := (0, [(4, 1)])) ae_fok_ok (t := fd_t) rfl (by decide) (fun ρ x y e1 e2 hr _ hm d1 d2 k1 k2 _ _ => by
    have hJ1 : ρ 1 = (J : Int) := by rw [hr 1 (by rw [hW]; decide)]; exact h1
    obtain ⟨j, v, m1, m2, z, rfl, m3⟩ := hm (4, (0, [(1, 1)]), (0, 0, (0, [(2, 1)])), false) (by decide)
    obtain ⟨j', v', n1, n2, z', rfl, n3⟩ := hm (223, (0, [(1, 1)]), (0, 0, (0, [(2, 1)])), false) (by decide)
    have m1 : (0 : Int) + (1 * ρ 1 + 0) = (j : Int) := m1.2
    have n1 : (0 : Int) + (1 * ρ 1 + 0) = (j' : Int) := n1.2
    obtain rfl : j = J := by omega
    obtain rfl : j' = j := by omega
    have ez : z = z' := Int32.toInt_inj.mp (m3.2.symm.trans n3.2)
    subst ez
    refine ⟨k1, k2, ?_, ?_, x, rfl, by rw [Int32.toInt_inj.mp (d1.symm.trans d2)]⟩
    · rw [← aq_ciA k1.1.1 k2.1.1 (show Nat.blt 3 219 = true from rfl), ← aq_ciB k1.1.1 k2.1.1 (show Nat.blt 219 219 = false from rfl), ad_c0 hm (p := 3) (j := 8) (e := (0, [(3, 1)])) (by decide), ad_c0 hm (p := 219) (j := 8) (e := (0, [(3, 1)])) (by decide)]
    · have m2 : ae_cell L xs (am_mX2 ap_b false e1 e2) 4 j' = _ := m2
      have n2 : ae_cell L xs (am_mX2 ap_b false e1 e2) 223 j' = _ := n2
      rw [ap_c (s := false) k1.1.1 k2.1.1 rfl] at m2
      rw [ap_cx (s := false) k1.1.1 k2.1.1 rfl] at n2
      rw [m2, n2])
theorem fd_i32 (x : Int32) : -2147483648 ≤ x.toInt ∧ x.toInt ≤ 2147483647 := ⟨Int32.le_toInt x, by have := Int32.toInt_lt x; omega⟩
theorem fd_lv {k : ae_K} {ρ : Nat → Int} {p : Nat} {a1 a2 a3 a4 a5 : Int32} {l : ae_L} (hl : l = [(0, (2, p, (0, []))), (1, (0, 0, (0, [(3, 1)]))), (2, (0, 0, (0, [(4, 1)]))), (3, (0, 0, (0, [(5, 1)]))), (4, (0, 0, (0, [(6, 1)]))), (5, (0, 0, (0, [(7, 1)])))]) (hk : 8 ≤ k.1) (h3 : ρ 3 = a1.toInt) (h4 : ρ 4 = a2.toInt) (h5 : ρ 5 = a3.toInt) (h6 : ρ 6 = a4.toInt) (h7 : ρ 7 = a5.toInt) : ae_lr k.1 ρ l (lv_args 0 [.ref p, .int a1, .int a2, .int a3, .int a4, .int a5]) := by
  subst hl
  have wt : ∀ s : Nat, s < 8 → ae_wt k.1 [(s, (1 : Int))] := fun s h => ⟨by omega, trivial⟩
  have ev : ∀ s : Nat, ae_ev ρ (0, [(s, 1)]) = ρ s := fun s => by show (0 : Int) + (1 * ρ s + 0) = ρ s; omega
  intro q hq
  simp only [List.mem_cons, List.not_mem_nil, or_false] at hq
  rcases hq with rfl | rfl | rfl | rfl | rfl | rfl
  · exact ⟨_, rfl, rfl⟩
  · exact ⟨.int a1, rfl, a1, rfl, wt 3 (by decide), by rw [ev]; exact h3⟩
  · exact ⟨.int a2, rfl, a2, rfl, wt 4 (by decide), by rw [ev]; exact h4⟩
  · exact ⟨.int a3, rfl, a3, rfl, wt 5 (by decide), by rw [ev]; exact h5⟩
  · exact ⟨.int a4, rfl, a4, rfl, wt 6 (by decide), by rw [ev]; exact h6⟩
  · exact ⟨.int a5, rfl, a5, rfl, wt 7 (by decide), by rw [ev]; exact h7⟩
theorem fd_0 (hL : L ≤ 3072) {hA hB : List am_E} (kA : ae_hk false L xs hA) (kB : ae_hk false L xs hB) {J : Nat} {s : Int} {a1 a2 a3 a4 a5 : Int32} {d : Nat} (hd : 12 ≤ d) (hJ : J < 900) (s0 : 0 ≤ s) (s9 : s ≤ 900) (hc : J + 1 ≤ s) (c1 : aq_ci L xs hA 3 8 = s) (c2 : aq_ci L xs hB 219 8 = s) (mir : ae_cell L xs hB 223 J = ae_cell L xs hA 4 J) :
    ap_end fd_mo L xs (fd_Q L xs J) ([(d, 144, 0, lv_args 0 [.ref 1, .int a1, .int a2, .int a3, .int a4, .int a5], [])], none) ([(d, 248, 0, lv_args 0 [.ref 219, .int a1, .int a2, .int a3, .int a4, .int a5], [])], none) hA hB := by
  have kM := aq_mixhk kA kB
  have l1 := kA.1.1
  have l2 := kB.1.1
  obtain ⟨x, x1, x2, x3, x4⟩ := aq_int kA (p := 4) (j := J) ⟨by decide, by decide, hJ⟩ rfl
  have x3 : (-128 : Int) ≤ x.toInt := x3
  have x4 : x.toInt ≤ 127 := x4
  have e2 : aq_ci L xs hB 223 J = x.toInt := by unfold aq_ci; rw [mir, x1]; rfl
  refine ab_all (W := fd_W0) (G := fun _ => True) (Q := fd_Q L xs J) (r0 := fd_r L J x.toInt a1.toInt a2.toInt a3.toInt a4.toInt a5.toInt s) ae_rok_ok ae_fok_ok hL (fun c h => absurd h List.not_mem_nil) (by decide +kernel) (fun _ _ _ _ => trivial) (fun z o ρ g1 g2 h1 h2 q S => ad_sb_ok q S) (ad_cons (Or.inl ⟨4000, true, true, fd_k0⟩) (ad_cons (Or.inr (fd_end rfl rfl)) ad_nil)) fd_s0 List.mem_cons_self (fd_r L J x.toInt a1.toInt a2.toInt a3.toInt a4.toInt a5.toInt s) _ _ hA hB ⟨⟨fun q hq => ?_, fun f hf => by
    have hf : f ∈ ([(1, [(1, 1), (8, (-1))])] : List ae_X) := hf
    rw [List.mem_singleton.mp hf]
    refine ⟨⟨by decide, by decide, trivial⟩, ?_⟩
    show (1 : Int) + (1 * J + ((-1) * s + 0)) ≤ 0
    omega, fun d hd => absurd hd List.not_mem_nil⟩, ⟨⟨by decide, by omega⟩, rfl⟩, ad_hp_new kM (fun m hm => ?_), ⟨⟨⟨hd, rfl, rfl, ?_, trivial⟩, trivial⟩, fun e => by cases e⟩, ⟨⟨⟨hd, rfl, rfl, ?_, trivial⟩, trivial⟩, fun e => by cases e⟩, aq_hs_of false kA, aq_hs_of true kB, trivial, ⟨_, fun t ht => absurd ht List.not_mem_nil, ae_fr_rf _ _ _ _, fun m hm => absurd hm List.not_mem_nil⟩⟩ (by decide) (fun _ _ => rfl)
  · have hq : q ∈ ([(1, 0, 899), (2, (-128), 127), (3, (-2147483648), 2147483647), (4, (-2147483648), 2147483647), (5, (-2147483648), 2147483647), (6, (-2147483648), 2147483647), (7, (-2147483648), 2147483647), (8, 0, 900)] : ae_B) := hq
    simp only [List.mem_cons, List.not_mem_nil, or_false] at hq
    rcases hq with rfl | rfl | rfl | rfl | rfl | rfl | rfl | rfl
    · exact ⟨(by decide : 1 < 9), by show (0 : Int) ≤ (J : Int); omega, by show (J : Int) ≤ 899; omega⟩
    · exact ⟨(by decide : 2 < 9), x3, x4⟩
    · exact ⟨(by decide : 3 < 9), fd_i32 a1⟩
    · exact ⟨(by decide : 4 < 9), fd_i32 a2⟩
    · exact ⟨(by decide : 5 < 9), fd_i32 a3⟩
    · exact ⟨(by decide : 6 < 9), fd_i32 a4⟩
    · exact ⟨(by decide : 7 < 9), fd_i32 a5⟩
    · exact ⟨(by decide : 8 < 9), by show (0 : Int) ≤ s; omega, by show s ≤ 900; omega⟩
  · have hm : m ∈ ([(3, (8, []), (0, 0, (0, [(8, 1)])), false), (219, (8, []), (0, 0, (0, [(8, 1)])), false), (4, (0, [(1, 1)]), (0, 0, (0, [(2, 1)])), false), (223, (0, [(1, 1)]), (0, 0, (0, [(2, 1)])), false)] : List ae_M) := hm
    simp only [List.mem_cons, List.not_mem_nil, or_false] at hm
    rcases hm with rfl | rfl | rfl | rfl
    · exact aq_eo kM (j := 8) ⟨by decide, by decide, by decide⟩ rfl rfl rfl rfl (by rw [aq_ciA l1 l2 rfl, c1]; show (0 : Int) + (1 * s + 0) = s; omega)
    · exact aq_eo kM (j := 8) ⟨by decide, by decide, by decide⟩ rfl rfl rfl rfl (by rw [aq_ciB l1 l2 rfl, c2]; show (0 : Int) + (1 * s + 0) = s; omega)
    · exact aq_eo kM (j := J) ⟨by decide, by decide, hJ⟩ rfl rfl rfl (by show (0 : Int) + (1 * (J : Int) + 0) = J; omega) (by rw [aq_ciA l1 l2 rfl, ← x2]; show (0 : Int) + (1 * x.toInt + 0) = x.toInt; omega)
    · exact aq_eo kM (j := J) ⟨by decide, by decide, hJ⟩ rfl rfl rfl (by show (0 : Int) + (1 * (J : Int) + 0) = J; omega) (by rw [aq_ciB l1 l2 rfl, e2]; show (0 : Int) + (1 * x.toInt + 0) = x.toInt; omega)
  · exact fd_lv rfl (by decide) rfl rfl rfl rfl rfl
  · exact fd_lv rfl (by decide) rfl rfl rfl rfl rfl
theorem fd_1 (hL : L ≤ 3072) {hA hB : List am_E} (kA : ae_hk false L xs hA) (kB : ae_hk false L xs hB) {J : Nat} {s : Int} {a1 a2 a3 a4 a5 : Int32} {d : Nat} (hd : 12 ≤ d) (hJ : J < 900) (s0 : 0 ≤ s) (s9 : s ≤ 900) (hc : J = s + 0) (c1 : aq_ci L xs hA 3 8 = s) (c2 : aq_ci L xs hB 219 8 = s) (mir : ae_cell L xs hB 223 J = ae_cell L xs hA 4 J) :
    ap_end fd_mo L xs (fd_Q L xs J) ([(d, 144, 0, lv_args 0 [.ref 1, .int a1, .int a2, .int a3, .int a4, .int a5], [])], none) ([(d, 248, 0, lv_args 0 [.ref 219, .int a1, .int a2, .int a3, .int a4, .int a5], [])], none) hA hB := by
  have kM := aq_mixhk kA kB
  have l1 := kA.1.1
  have l2 := kB.1.1
  obtain ⟨x, x1, x2, x3, x4⟩ := aq_int kA (p := 4) (j := J) ⟨by decide, by decide, hJ⟩ rfl
  have x3 : (-128 : Int) ≤ x.toInt := x3
  have x4 : x.toInt ≤ 127 := x4
  have e2 : aq_ci L xs hB 223 J = x.toInt := by unfold aq_ci; rw [mir, x1]; rfl
  refine ab_all (W := fd_W1) (G := fun _ => True) (Q := fd_Q L xs J) (r0 := fd_r L J x.toInt a1.toInt a2.toInt a3.toInt a4.toInt a5.toInt s) ae_rok_ok ae_fok_ok hL (fun c h => absurd h List.not_mem_nil) (by decide +kernel) (fun _ _ _ _ => trivial) (fun z o ρ g1 g2 h1 h2 q S => ad_sb_ok q S) (ad_cons (Or.inl ⟨4000, true, true, fd_k1⟩) (ad_cons (Or.inr (fd_end rfl rfl)) ad_nil)) fd_s1 List.mem_cons_self (fd_r L J x.toInt a1.toInt a2.toInt a3.toInt a4.toInt a5.toInt s) _ _ hA hB ⟨⟨fun q hq => ?_, fun f hf => absurd hf List.not_mem_nil, fun d hd => absurd hd List.not_mem_nil⟩, ⟨⟨by decide, by omega⟩, rfl⟩, ad_hp_new kM (fun m hm => ?_), ⟨⟨⟨hd, rfl, rfl, ?_, trivial⟩, trivial⟩, fun e => by cases e⟩, ⟨⟨⟨hd, rfl, rfl, ?_, trivial⟩, trivial⟩, fun e => by cases e⟩, aq_hs_of false kA, aq_hs_of true kB, trivial, ⟨_, fun t ht => absurd ht List.not_mem_nil, ae_fr_rf _ _ _ _, fun m hm => absurd hm List.not_mem_nil⟩⟩ (by decide) (fun _ _ => rfl)
  · have hq : q ∈ ([(1, 0, 899), (2, (-128), 127), (3, (-2147483648), 2147483647), (4, (-2147483648), 2147483647), (5, (-2147483648), 2147483647), (6, (-2147483648), 2147483647), (7, (-2147483648), 2147483647)] : ae_B) := hq
    simp only [List.mem_cons, List.not_mem_nil, or_false] at hq
    rcases hq with rfl | rfl | rfl | rfl | rfl | rfl | rfl
    · exact ⟨(by decide : 1 < 8), by show (0 : Int) ≤ (J : Int); omega, by show (J : Int) ≤ 899; omega⟩
    · exact ⟨(by decide : 2 < 8), x3, x4⟩
    · exact ⟨(by decide : 3 < 8), fd_i32 a1⟩
    · exact ⟨(by decide : 4 < 8), fd_i32 a2⟩
    · exact ⟨(by decide : 5 < 8), fd_i32 a3⟩
    · exact ⟨(by decide : 6 < 8), fd_i32 a4⟩
    · exact ⟨(by decide : 7 < 8), fd_i32 a5⟩
  · have hm : m ∈ ([(3, (8, []), (0, 0, (0, [(1, 1)])), false), (219, (8, []), (0, 0, (0, [(1, 1)])), false), (4, (0, [(1, 1)]), (0, 0, (0, [(2, 1)])), false), (223, (0, [(1, 1)]), (0, 0, (0, [(2, 1)])), false)] : List ae_M) := hm
    simp only [List.mem_cons, List.not_mem_nil, or_false] at hm
    rcases hm with rfl | rfl | rfl | rfl
    · exact aq_eo kM (j := 8) ⟨by decide, by decide, by decide⟩ rfl rfl rfl rfl (by rw [aq_ciA l1 l2 rfl, c1]; show (0 : Int) + (1 * J + 0) = s; omega)
    · exact aq_eo kM (j := 8) ⟨by decide, by decide, by decide⟩ rfl rfl rfl rfl (by rw [aq_ciB l1 l2 rfl, c2]; show (0 : Int) + (1 * J + 0) = s; omega)
    · exact aq_eo kM (j := J) ⟨by decide, by decide, hJ⟩ rfl rfl rfl (by show (0 : Int) + (1 * (J : Int) + 0) = J; omega) (by rw [aq_ciA l1 l2 rfl, ← x2]; show (0 : Int) + (1 * x.toInt + 0) = x.toInt; omega)
    · exact aq_eo kM (j := J) ⟨by decide, by decide, hJ⟩ rfl rfl rfl (by show (0 : Int) + (1 * (J : Int) + 0) = J; omega) (by rw [aq_ciB l1 l2 rfl, e2]; show (0 : Int) + (1 * x.toInt + 0) = x.toInt; omega)
  · exact fd_lv rfl (by decide) rfl rfl rfl rfl rfl
  · exact fd_lv rfl (by decide) rfl rfl rfl rfl rfl
theorem fd_2 (hL : L ≤ 3072) {hA hB : List am_E} (kA : ae_hk false L xs hA) (kB : ae_hk false L xs hB) {J : Nat} {s : Int} {a1 a2 a3 a4 a5 : Int32} {d : Nat} (hd : 12 ≤ d) (hJ : J < 900) (s0 : 0 ≤ s) (s9 : s ≤ 900) (hc : J = s + 1) (c1 : aq_ci L xs hA 3 8 = s) (c2 : aq_ci L xs hB 219 8 = s) (mir : ae_cell L xs hB 223 J = ae_cell L xs hA 4 J) :
    ap_end fd_mo L xs (fd_Q L xs J) ([(d, 144, 0, lv_args 0 [.ref 1, .int a1, .int a2, .int a3, .int a4, .int a5], [])], none) ([(d, 248, 0, lv_args 0 [.ref 219, .int a1, .int a2, .int a3, .int a4, .int a5], [])], none) hA hB := by
  have kM := aq_mixhk kA kB
  have l1 := kA.1.1
  have l2 := kB.1.1
  obtain ⟨x, x1, x2, x3, x4⟩ := aq_int kA (p := 4) (j := J) ⟨by decide, by decide, hJ⟩ rfl
  have x3 : (-128 : Int) ≤ x.toInt := x3
  have x4 : x.toInt ≤ 127 := x4
  have e2 : aq_ci L xs hB 223 J = x.toInt := by unfold aq_ci; rw [mir, x1]; rfl
  refine ab_all (W := fd_W2) (G := fun _ => True) (Q := fd_Q L xs J) (r0 := fd_r L J x.toInt a1.toInt a2.toInt a3.toInt a4.toInt a5.toInt s) ae_rok_ok ae_fok_ok hL (fun c h => absurd h List.not_mem_nil) (by decide +kernel) (fun _ _ _ _ => trivial) (fun z o ρ g1 g2 h1 h2 q S => ad_sb_ok q S) (ad_cons (Or.inl ⟨4000, true, true, fd_k2⟩) (ad_cons (Or.inr (fd_end rfl rfl)) ad_nil)) fd_s2 List.mem_cons_self (fd_r L J x.toInt a1.toInt a2.toInt a3.toInt a4.toInt a5.toInt s) _ _ hA hB ⟨⟨fun q hq => ?_, fun f hf => absurd hf List.not_mem_nil, fun d hd => absurd hd List.not_mem_nil⟩, ⟨⟨by decide, by omega⟩, rfl⟩, ad_hp_new kM (fun m hm => ?_), ⟨⟨⟨hd, rfl, rfl, ?_, trivial⟩, trivial⟩, fun e => by cases e⟩, ⟨⟨⟨hd, rfl, rfl, ?_, trivial⟩, trivial⟩, fun e => by cases e⟩, aq_hs_of false kA, aq_hs_of true kB, trivial, ⟨_, fun t ht => absurd ht List.not_mem_nil, ae_fr_rf _ _ _ _, fun m hm => absurd hm List.not_mem_nil⟩⟩ (by decide) (fun _ _ => rfl)
  · have hq : q ∈ ([(1, 1, 899), (2, (-128), 127), (3, (-2147483648), 2147483647), (4, (-2147483648), 2147483647), (5, (-2147483648), 2147483647), (6, (-2147483648), 2147483647), (7, (-2147483648), 2147483647)] : ae_B) := hq
    simp only [List.mem_cons, List.not_mem_nil, or_false] at hq
    rcases hq with rfl | rfl | rfl | rfl | rfl | rfl | rfl
    · exact ⟨(by decide : 1 < 8), by show (1 : Int) ≤ (J : Int); omega, by show (J : Int) ≤ 899; omega⟩
    · exact ⟨(by decide : 2 < 8), x3, x4⟩
    · exact ⟨(by decide : 3 < 8), fd_i32 a1⟩
    · exact ⟨(by decide : 4 < 8), fd_i32 a2⟩
    · exact ⟨(by decide : 5 < 8), fd_i32 a3⟩
    · exact ⟨(by decide : 6 < 8), fd_i32 a4⟩
    · exact ⟨(by decide : 7 < 8), fd_i32 a5⟩
  · have hm : m ∈ ([(3, (8, []), (0, 0, ((-1), [(1, 1)])), false), (219, (8, []), (0, 0, ((-1), [(1, 1)])), false), (4, (0, [(1, 1)]), (0, 0, (0, [(2, 1)])), false), (223, (0, [(1, 1)]), (0, 0, (0, [(2, 1)])), false)] : List ae_M) := hm
    simp only [List.mem_cons, List.not_mem_nil, or_false] at hm
    rcases hm with rfl | rfl | rfl | rfl
    · exact aq_eo kM (j := 8) ⟨by decide, by decide, by decide⟩ rfl rfl rfl rfl (by rw [aq_ciA l1 l2 rfl, c1]; show (-1 : Int) + (1 * J + 0) = s; omega)
    · exact aq_eo kM (j := 8) ⟨by decide, by decide, by decide⟩ rfl rfl rfl rfl (by rw [aq_ciB l1 l2 rfl, c2]; show (-1 : Int) + (1 * J + 0) = s; omega)
    · exact aq_eo kM (j := J) ⟨by decide, by decide, hJ⟩ rfl rfl rfl (by show (0 : Int) + (1 * (J : Int) + 0) = J; omega) (by rw [aq_ciA l1 l2 rfl, ← x2]; show (0 : Int) + (1 * x.toInt + 0) = x.toInt; omega)
    · exact aq_eo kM (j := J) ⟨by decide, by decide, hJ⟩ rfl rfl rfl (by show (0 : Int) + (1 * (J : Int) + 0) = J; omega) (by rw [aq_ciB l1 l2 rfl, e2]; show (0 : Int) + (1 * x.toInt + 0) = x.toInt; omega)
  · exact fd_lv rfl (by decide) rfl rfl rfl rfl rfl
  · exact fd_lv rfl (by decide) rfl rfl rfl rfl rfl
theorem fd_3 (hL : L ≤ 3072) {hA hB : List am_E} (kA : ae_hk false L xs hA) (kB : ae_hk false L xs hB) {J : Nat} {s : Int} {a1 a2 a3 a4 a5 : Int32} {d : Nat} (hd : 12 ≤ d) (hJ : J < 900) (s0 : 0 ≤ s) (s9 : s ≤ 900) (hc : J = s + 2) (c1 : aq_ci L xs hA 3 8 = s) (c2 : aq_ci L xs hB 219 8 = s) (mir : ae_cell L xs hB 223 J = ae_cell L xs hA 4 J) :
    ap_end fd_mo L xs (fd_Q L xs J) ([(d, 144, 0, lv_args 0 [.ref 1, .int a1, .int a2, .int a3, .int a4, .int a5], [])], none) ([(d, 248, 0, lv_args 0 [.ref 219, .int a1, .int a2, .int a3, .int a4, .int a5], [])], none) hA hB := by
  have kM := aq_mixhk kA kB
  have l1 := kA.1.1
  have l2 := kB.1.1
  obtain ⟨x, x1, x2, x3, x4⟩ := aq_int kA (p := 4) (j := J) ⟨by decide, by decide, hJ⟩ rfl
  have x3 : (-128 : Int) ≤ x.toInt := x3
  have x4 : x.toInt ≤ 127 := x4
  have e2 : aq_ci L xs hB 223 J = x.toInt := by unfold aq_ci; rw [mir, x1]; rfl
  refine ab_all (W := fd_W3) (G := fun _ => True) (Q := fd_Q L xs J) (r0 := fd_r L J x.toInt a1.toInt a2.toInt a3.toInt a4.toInt a5.toInt s) ae_rok_ok ae_fok_ok hL (fun c h => absurd h List.not_mem_nil) (by decide +kernel) (fun _ _ _ _ => trivial) (fun z o ρ g1 g2 h1 h2 q S => ad_sb_ok q S) (ad_cons (Or.inl ⟨4000, true, true, fd_k3⟩) (ad_cons (Or.inr (fd_end rfl rfl)) ad_nil)) fd_s3 List.mem_cons_self (fd_r L J x.toInt a1.toInt a2.toInt a3.toInt a4.toInt a5.toInt s) _ _ hA hB ⟨⟨fun q hq => ?_, fun f hf => absurd hf List.not_mem_nil, fun d hd => absurd hd List.not_mem_nil⟩, ⟨⟨by decide, by omega⟩, rfl⟩, ad_hp_new kM (fun m hm => ?_), ⟨⟨⟨hd, rfl, rfl, ?_, trivial⟩, trivial⟩, fun e => by cases e⟩, ⟨⟨⟨hd, rfl, rfl, ?_, trivial⟩, trivial⟩, fun e => by cases e⟩, aq_hs_of false kA, aq_hs_of true kB, trivial, ⟨_, fun t ht => absurd ht List.not_mem_nil, ae_fr_rf _ _ _ _, fun m hm => absurd hm List.not_mem_nil⟩⟩ (by decide) (fun _ _ => rfl)
  · have hq : q ∈ ([(1, 2, 899), (2, (-128), 127), (3, (-2147483648), 2147483647), (4, (-2147483648), 2147483647), (5, (-2147483648), 2147483647), (6, (-2147483648), 2147483647), (7, (-2147483648), 2147483647)] : ae_B) := hq
    simp only [List.mem_cons, List.not_mem_nil, or_false] at hq
    rcases hq with rfl | rfl | rfl | rfl | rfl | rfl | rfl
    · exact ⟨(by decide : 1 < 8), by show (2 : Int) ≤ (J : Int); omega, by show (J : Int) ≤ 899; omega⟩
    · exact ⟨(by decide : 2 < 8), x3, x4⟩
    · exact ⟨(by decide : 3 < 8), fd_i32 a1⟩
    · exact ⟨(by decide : 4 < 8), fd_i32 a2⟩
    · exact ⟨(by decide : 5 < 8), fd_i32 a3⟩
    · exact ⟨(by decide : 6 < 8), fd_i32 a4⟩
    · exact ⟨(by decide : 7 < 8), fd_i32 a5⟩
  · have hm : m ∈ ([(3, (8, []), (0, 0, ((-2), [(1, 1)])), false), (219, (8, []), (0, 0, ((-2), [(1, 1)])), false), (4, (0, [(1, 1)]), (0, 0, (0, [(2, 1)])), false), (223, (0, [(1, 1)]), (0, 0, (0, [(2, 1)])), false)] : List ae_M) := hm
    simp only [List.mem_cons, List.not_mem_nil, or_false] at hm
    rcases hm with rfl | rfl | rfl | rfl
    · exact aq_eo kM (j := 8) ⟨by decide, by decide, by decide⟩ rfl rfl rfl rfl (by rw [aq_ciA l1 l2 rfl, c1]; show (-2 : Int) + (1 * J + 0) = s; omega)
    · exact aq_eo kM (j := 8) ⟨by decide, by decide, by decide⟩ rfl rfl rfl rfl (by rw [aq_ciB l1 l2 rfl, c2]; show (-2 : Int) + (1 * J + 0) = s; omega)
    · exact aq_eo kM (j := J) ⟨by decide, by decide, hJ⟩ rfl rfl rfl (by show (0 : Int) + (1 * (J : Int) + 0) = J; omega) (by rw [aq_ciA l1 l2 rfl, ← x2]; show (0 : Int) + (1 * x.toInt + 0) = x.toInt; omega)
    · exact aq_eo kM (j := J) ⟨by decide, by decide, hJ⟩ rfl rfl rfl (by show (0 : Int) + (1 * (J : Int) + 0) = J; omega) (by rw [aq_ciB l1 l2 rfl, e2]; show (0 : Int) + (1 * x.toInt + 0) = x.toInt; omega)
  · exact fd_lv rfl (by decide) rfl rfl rfl rfl rfl
  · exact fd_lv rfl (by decide) rfl rfl rfl rfl rfl
theorem fd_4 (hL : L ≤ 3072) {hA hB : List am_E} (kA : ae_hk false L xs hA) (kB : ae_hk false L xs hB) {J : Nat} {s : Int} {a1 a2 a3 a4 a5 : Int32} {d : Nat} (hd : 12 ≤ d) (hJ : J < 900) (s0 : 0 ≤ s) (s9 : s ≤ 900) (hc : J = s + 3) (c1 : aq_ci L xs hA 3 8 = s) (c2 : aq_ci L xs hB 219 8 = s) (mir : ae_cell L xs hB 223 J = ae_cell L xs hA 4 J) :
    ap_end fd_mo L xs (fd_Q L xs J) ([(d, 144, 0, lv_args 0 [.ref 1, .int a1, .int a2, .int a3, .int a4, .int a5], [])], none) ([(d, 248, 0, lv_args 0 [.ref 219, .int a1, .int a2, .int a3, .int a4, .int a5], [])], none) hA hB := by
  have kM := aq_mixhk kA kB
  have l1 := kA.1.1
  have l2 := kB.1.1
  obtain ⟨x, x1, x2, x3, x4⟩ := aq_int kA (p := 4) (j := J) ⟨by decide, by decide, hJ⟩ rfl
  have x3 : (-128 : Int) ≤ x.toInt := x3
  have x4 : x.toInt ≤ 127 := x4
  have e2 : aq_ci L xs hB 223 J = x.toInt := by unfold aq_ci; rw [mir, x1]; rfl
  refine ab_all (W := fd_W4) (G := fun _ => True) (Q := fd_Q L xs J) (r0 := fd_r L J x.toInt a1.toInt a2.toInt a3.toInt a4.toInt a5.toInt s) ae_rok_ok ae_fok_ok hL (fun c h => absurd h List.not_mem_nil) (by decide +kernel) (fun _ _ _ _ => trivial) (fun z o ρ g1 g2 h1 h2 q S => ad_sb_ok q S) (ad_cons (Or.inl ⟨4000, true, true, fd_k4⟩) (ad_cons (Or.inr (fd_end rfl rfl)) ad_nil)) fd_s4 List.mem_cons_self (fd_r L J x.toInt a1.toInt a2.toInt a3.toInt a4.toInt a5.toInt s) _ _ hA hB ⟨⟨fun q hq => ?_, fun f hf => absurd hf List.not_mem_nil, fun d hd => absurd hd List.not_mem_nil⟩, ⟨⟨by decide, by omega⟩, rfl⟩, ad_hp_new kM (fun m hm => ?_), ⟨⟨⟨hd, rfl, rfl, ?_, trivial⟩, trivial⟩, fun e => by cases e⟩, ⟨⟨⟨hd, rfl, rfl, ?_, trivial⟩, trivial⟩, fun e => by cases e⟩, aq_hs_of false kA, aq_hs_of true kB, trivial, ⟨_, fun t ht => absurd ht List.not_mem_nil, ae_fr_rf _ _ _ _, fun m hm => absurd hm List.not_mem_nil⟩⟩ (by decide) (fun _ _ => rfl)
  · have hq : q ∈ ([(1, 3, 899), (2, (-128), 127), (3, (-2147483648), 2147483647), (4, (-2147483648), 2147483647), (5, (-2147483648), 2147483647), (6, (-2147483648), 2147483647), (7, (-2147483648), 2147483647)] : ae_B) := hq
    simp only [List.mem_cons, List.not_mem_nil, or_false] at hq
    rcases hq with rfl | rfl | rfl | rfl | rfl | rfl | rfl
    · exact ⟨(by decide : 1 < 8), by show (3 : Int) ≤ (J : Int); omega, by show (J : Int) ≤ 899; omega⟩
    · exact ⟨(by decide : 2 < 8), x3, x4⟩
    · exact ⟨(by decide : 3 < 8), fd_i32 a1⟩
    · exact ⟨(by decide : 4 < 8), fd_i32 a2⟩
    · exact ⟨(by decide : 5 < 8), fd_i32 a3⟩
    · exact ⟨(by decide : 6 < 8), fd_i32 a4⟩
    · exact ⟨(by decide : 7 < 8), fd_i32 a5⟩
  · have hm : m ∈ ([(3, (8, []), (0, 0, ((-3), [(1, 1)])), false), (219, (8, []), (0, 0, ((-3), [(1, 1)])), false), (4, (0, [(1, 1)]), (0, 0, (0, [(2, 1)])), false), (223, (0, [(1, 1)]), (0, 0, (0, [(2, 1)])), false)] : List ae_M) := hm
    simp only [List.mem_cons, List.not_mem_nil, or_false] at hm
    rcases hm with rfl | rfl | rfl | rfl
    · exact aq_eo kM (j := 8) ⟨by decide, by decide, by decide⟩ rfl rfl rfl rfl (by rw [aq_ciA l1 l2 rfl, c1]; show (-3 : Int) + (1 * J + 0) = s; omega)
    · exact aq_eo kM (j := 8) ⟨by decide, by decide, by decide⟩ rfl rfl rfl rfl (by rw [aq_ciB l1 l2 rfl, c2]; show (-3 : Int) + (1 * J + 0) = s; omega)
    · exact aq_eo kM (j := J) ⟨by decide, by decide, hJ⟩ rfl rfl rfl (by show (0 : Int) + (1 * (J : Int) + 0) = J; omega) (by rw [aq_ciA l1 l2 rfl, ← x2]; show (0 : Int) + (1 * x.toInt + 0) = x.toInt; omega)
    · exact aq_eo kM (j := J) ⟨by decide, by decide, hJ⟩ rfl rfl rfl (by show (0 : Int) + (1 * (J : Int) + 0) = J; omega) (by rw [aq_ciB l1 l2 rfl, e2]; show (0 : Int) + (1 * x.toInt + 0) = x.toInt; omega)
  · exact fd_lv rfl (by decide) rfl rfl rfl rfl rfl
  · exact fd_lv rfl (by decide) rfl rfl rfl rfl rfl
theorem fd_5 (hL : L ≤ 3072) {hA hB : List am_E} (kA : ae_hk false L xs hA) (kB : ae_hk false L xs hB) {J : Nat} {s : Int} {a1 a2 a3 a4 a5 : Int32} {d : Nat} (hd : 12 ≤ d) (hJ : J < 900) (s0 : 0 ≤ s) (s9 : s ≤ 900) (hc : J = s + 4) (c1 : aq_ci L xs hA 3 8 = s) (c2 : aq_ci L xs hB 219 8 = s) (mir : ae_cell L xs hB 223 J = ae_cell L xs hA 4 J) :
    ap_end fd_mo L xs (fd_Q L xs J) ([(d, 144, 0, lv_args 0 [.ref 1, .int a1, .int a2, .int a3, .int a4, .int a5], [])], none) ([(d, 248, 0, lv_args 0 [.ref 219, .int a1, .int a2, .int a3, .int a4, .int a5], [])], none) hA hB := by
  have kM := aq_mixhk kA kB
  have l1 := kA.1.1
  have l2 := kB.1.1
  obtain ⟨x, x1, x2, x3, x4⟩ := aq_int kA (p := 4) (j := J) ⟨by decide, by decide, hJ⟩ rfl
  have x3 : (-128 : Int) ≤ x.toInt := x3
  have x4 : x.toInt ≤ 127 := x4
  have e2 : aq_ci L xs hB 223 J = x.toInt := by unfold aq_ci; rw [mir, x1]; rfl
  refine ab_all (W := fd_W5) (G := fun _ => True) (Q := fd_Q L xs J) (r0 := fd_r L J x.toInt a1.toInt a2.toInt a3.toInt a4.toInt a5.toInt s) ae_rok_ok ae_fok_ok hL (fun c h => absurd h List.not_mem_nil) (by decide +kernel) (fun _ _ _ _ => trivial) (fun z o ρ g1 g2 h1 h2 q S => ad_sb_ok q S) (ad_cons (Or.inl ⟨4000, true, true, fd_k5⟩) (ad_cons (Or.inr (fd_end rfl rfl)) ad_nil)) fd_s5 List.mem_cons_self (fd_r L J x.toInt a1.toInt a2.toInt a3.toInt a4.toInt a5.toInt s) _ _ hA hB ⟨⟨fun q hq => ?_, fun f hf => absurd hf List.not_mem_nil, fun d hd => absurd hd List.not_mem_nil⟩, ⟨⟨by decide, by omega⟩, rfl⟩, ad_hp_new kM (fun m hm => ?_), ⟨⟨⟨hd, rfl, rfl, ?_, trivial⟩, trivial⟩, fun e => by cases e⟩, ⟨⟨⟨hd, rfl, rfl, ?_, trivial⟩, trivial⟩, fun e => by cases e⟩, aq_hs_of false kA, aq_hs_of true kB, trivial, ⟨_, fun t ht => absurd ht List.not_mem_nil, ae_fr_rf _ _ _ _, fun m hm => absurd hm List.not_mem_nil⟩⟩ (by decide) (fun _ _ => rfl)
  · have hq : q ∈ ([(1, 4, 899), (2, (-128), 127), (3, (-2147483648), 2147483647), (4, (-2147483648), 2147483647), (5, (-2147483648), 2147483647), (6, (-2147483648), 2147483647), (7, (-2147483648), 2147483647)] : ae_B) := hq
    simp only [List.mem_cons, List.not_mem_nil, or_false] at hq
    rcases hq with rfl | rfl | rfl | rfl | rfl | rfl | rfl
    · exact ⟨(by decide : 1 < 8), by show (4 : Int) ≤ (J : Int); omega, by show (J : Int) ≤ 899; omega⟩
    · exact ⟨(by decide : 2 < 8), x3, x4⟩
    · exact ⟨(by decide : 3 < 8), fd_i32 a1⟩
    · exact ⟨(by decide : 4 < 8), fd_i32 a2⟩
    · exact ⟨(by decide : 5 < 8), fd_i32 a3⟩
    · exact ⟨(by decide : 6 < 8), fd_i32 a4⟩
    · exact ⟨(by decide : 7 < 8), fd_i32 a5⟩
  · have hm : m ∈ ([(3, (8, []), (0, 0, ((-4), [(1, 1)])), false), (219, (8, []), (0, 0, ((-4), [(1, 1)])), false), (4, (0, [(1, 1)]), (0, 0, (0, [(2, 1)])), false), (223, (0, [(1, 1)]), (0, 0, (0, [(2, 1)])), false)] : List ae_M) := hm
    simp only [List.mem_cons, List.not_mem_nil, or_false] at hm
    rcases hm with rfl | rfl | rfl | rfl
    · exact aq_eo kM (j := 8) ⟨by decide, by decide, by decide⟩ rfl rfl rfl rfl (by rw [aq_ciA l1 l2 rfl, c1]; show (-4 : Int) + (1 * J + 0) = s; omega)
    · exact aq_eo kM (j := 8) ⟨by decide, by decide, by decide⟩ rfl rfl rfl rfl (by rw [aq_ciB l1 l2 rfl, c2]; show (-4 : Int) + (1 * J + 0) = s; omega)
    · exact aq_eo kM (j := J) ⟨by decide, by decide, hJ⟩ rfl rfl rfl (by show (0 : Int) + (1 * (J : Int) + 0) = J; omega) (by rw [aq_ciA l1 l2 rfl, ← x2]; show (0 : Int) + (1 * x.toInt + 0) = x.toInt; omega)
    · exact aq_eo kM (j := J) ⟨by decide, by decide, hJ⟩ rfl rfl rfl (by show (0 : Int) + (1 * (J : Int) + 0) = J; omega) (by rw [aq_ciB l1 l2 rfl, e2]; show (0 : Int) + (1 * x.toInt + 0) = x.toInt; omega)
  · exact fd_lv rfl (by decide) rfl rfl rfl rfl rfl
  · exact fd_lv rfl (by decide) rfl rfl rfl rfl rfl
theorem fd_6 (hL : L ≤ 3072) {hA hB : List am_E} (kA : ae_hk false L xs hA) (kB : ae_hk false L xs hB) {J : Nat} {s : Int} {a1 a2 a3 a4 a5 : Int32} {d : Nat} (hd : 12 ≤ d) (hJ : J < 900) (s0 : 0 ≤ s) (s9 : s ≤ 900) (hc : J = s + 5) (c1 : aq_ci L xs hA 3 8 = s) (c2 : aq_ci L xs hB 219 8 = s) (mir : ae_cell L xs hB 223 J = ae_cell L xs hA 4 J) :
    ap_end fd_mo L xs (fd_Q L xs J) ([(d, 144, 0, lv_args 0 [.ref 1, .int a1, .int a2, .int a3, .int a4, .int a5], [])], none) ([(d, 248, 0, lv_args 0 [.ref 219, .int a1, .int a2, .int a3, .int a4, .int a5], [])], none) hA hB := by
  have kM := aq_mixhk kA kB
  have l1 := kA.1.1
  have l2 := kB.1.1
  obtain ⟨x, x1, x2, x3, x4⟩ := aq_int kA (p := 4) (j := J) ⟨by decide, by decide, hJ⟩ rfl
  have x3 : (-128 : Int) ≤ x.toInt := x3
  have x4 : x.toInt ≤ 127 := x4
  have e2 : aq_ci L xs hB 223 J = x.toInt := by unfold aq_ci; rw [mir, x1]; rfl
  refine ab_all (W := fd_W6) (G := fun _ => True) (Q := fd_Q L xs J) (r0 := fd_r L J x.toInt a1.toInt a2.toInt a3.toInt a4.toInt a5.toInt s) ae_rok_ok ae_fok_ok hL (fun c h => absurd h List.not_mem_nil) (by decide +kernel) (fun _ _ _ _ => trivial) (fun z o ρ g1 g2 h1 h2 q S => ad_sb_ok q S) (ad_cons (Or.inl ⟨4000, true, true, fd_k6⟩) (ad_cons (Or.inr (fd_end rfl rfl)) ad_nil)) fd_s6 List.mem_cons_self (fd_r L J x.toInt a1.toInt a2.toInt a3.toInt a4.toInt a5.toInt s) _ _ hA hB ⟨⟨fun q hq => ?_, fun f hf => absurd hf List.not_mem_nil, fun d hd => absurd hd List.not_mem_nil⟩, ⟨⟨by decide, by omega⟩, rfl⟩, ad_hp_new kM (fun m hm => ?_), ⟨⟨⟨hd, rfl, rfl, ?_, trivial⟩, trivial⟩, fun e => by cases e⟩, ⟨⟨⟨hd, rfl, rfl, ?_, trivial⟩, trivial⟩, fun e => by cases e⟩, aq_hs_of false kA, aq_hs_of true kB, trivial, ⟨_, fun t ht => absurd ht List.not_mem_nil, ae_fr_rf _ _ _ _, fun m hm => absurd hm List.not_mem_nil⟩⟩ (by decide) (fun _ _ => rfl)
  · have hq : q ∈ ([(1, 5, 899), (2, (-128), 127), (3, (-2147483648), 2147483647), (4, (-2147483648), 2147483647), (5, (-2147483648), 2147483647), (6, (-2147483648), 2147483647), (7, (-2147483648), 2147483647)] : ae_B) := hq
    simp only [List.mem_cons, List.not_mem_nil, or_false] at hq
    rcases hq with rfl | rfl | rfl | rfl | rfl | rfl | rfl
    · exact ⟨(by decide : 1 < 8), by show (5 : Int) ≤ (J : Int); omega, by show (J : Int) ≤ 899; omega⟩
    · exact ⟨(by decide : 2 < 8), x3, x4⟩
    · exact ⟨(by decide : 3 < 8), fd_i32 a1⟩
    · exact ⟨(by decide : 4 < 8), fd_i32 a2⟩
    · exact ⟨(by decide : 5 < 8), fd_i32 a3⟩
    · exact ⟨(by decide : 6 < 8), fd_i32 a4⟩
    · exact ⟨(by decide : 7 < 8), fd_i32 a5⟩
  · have hm : m ∈ ([(3, (8, []), (0, 0, ((-5), [(1, 1)])), false), (219, (8, []), (0, 0, ((-5), [(1, 1)])), false), (4, (0, [(1, 1)]), (0, 0, (0, [(2, 1)])), false), (223, (0, [(1, 1)]), (0, 0, (0, [(2, 1)])), false)] : List ae_M) := hm
    simp only [List.mem_cons, List.not_mem_nil, or_false] at hm
    rcases hm with rfl | rfl | rfl | rfl
    · exact aq_eo kM (j := 8) ⟨by decide, by decide, by decide⟩ rfl rfl rfl rfl (by rw [aq_ciA l1 l2 rfl, c1]; show (-5 : Int) + (1 * J + 0) = s; omega)
    · exact aq_eo kM (j := 8) ⟨by decide, by decide, by decide⟩ rfl rfl rfl rfl (by rw [aq_ciB l1 l2 rfl, c2]; show (-5 : Int) + (1 * J + 0) = s; omega)
    · exact aq_eo kM (j := J) ⟨by decide, by decide, hJ⟩ rfl rfl rfl (by show (0 : Int) + (1 * (J : Int) + 0) = J; omega) (by rw [aq_ciA l1 l2 rfl, ← x2]; show (0 : Int) + (1 * x.toInt + 0) = x.toInt; omega)
    · exact aq_eo kM (j := J) ⟨by decide, by decide, hJ⟩ rfl rfl rfl (by show (0 : Int) + (1 * (J : Int) + 0) = J; omega) (by rw [aq_ciB l1 l2 rfl, e2]; show (0 : Int) + (1 * x.toInt + 0) = x.toInt; omega)
  · exact fd_lv rfl (by decide) rfl rfl rfl rfl rfl
  · exact fd_lv rfl (by decide) rfl rfl rfl rfl rfl
theorem fd_7 (hL : L ≤ 3072) {hA hB : List am_E} (kA : ae_hk false L xs hA) (kB : ae_hk false L xs hB) {J : Nat} {s : Int} {a1 a2 a3 a4 a5 : Int32} {d : Nat} (hd : 12 ≤ d) (hJ : J < 900) (s0 : 0 ≤ s) (s9 : s ≤ 900) (hc : J = s + 6) (c1 : aq_ci L xs hA 3 8 = s) (c2 : aq_ci L xs hB 219 8 = s) (mir : ae_cell L xs hB 223 J = ae_cell L xs hA 4 J) :
    ap_end fd_mo L xs (fd_Q L xs J) ([(d, 144, 0, lv_args 0 [.ref 1, .int a1, .int a2, .int a3, .int a4, .int a5], [])], none) ([(d, 248, 0, lv_args 0 [.ref 219, .int a1, .int a2, .int a3, .int a4, .int a5], [])], none) hA hB := by
  have kM := aq_mixhk kA kB
  have l1 := kA.1.1
  have l2 := kB.1.1
  obtain ⟨x, x1, x2, x3, x4⟩ := aq_int kA (p := 4) (j := J) ⟨by decide, by decide, hJ⟩ rfl
  have x3 : (-128 : Int) ≤ x.toInt := x3
  have x4 : x.toInt ≤ 127 := x4
  have e2 : aq_ci L xs hB 223 J = x.toInt := by unfold aq_ci; rw [mir, x1]; rfl
  refine ab_all (W := fd_W7) (G := fun _ => True) (Q := fd_Q L xs J) (r0 := fd_r L J x.toInt a1.toInt a2.toInt a3.toInt a4.toInt a5.toInt s) ae_rok_ok ae_fok_ok hL (fun c h => absurd h List.not_mem_nil) (by decide +kernel) (fun _ _ _ _ => trivial) (fun z o ρ g1 g2 h1 h2 q S => ad_sb_ok q S) (ad_cons (Or.inl ⟨4000, true, true, fd_k7⟩) (ad_cons (Or.inr (fd_end rfl rfl)) ad_nil)) fd_s7 List.mem_cons_self (fd_r L J x.toInt a1.toInt a2.toInt a3.toInt a4.toInt a5.toInt s) _ _ hA hB ⟨⟨fun q hq => ?_, fun f hf => absurd hf List.not_mem_nil, fun d hd => absurd hd List.not_mem_nil⟩, ⟨⟨by decide, by omega⟩, rfl⟩, ad_hp_new kM (fun m hm => ?_), ⟨⟨⟨hd, rfl, rfl, ?_, trivial⟩, trivial⟩, fun e => by cases e⟩, ⟨⟨⟨hd, rfl, rfl, ?_, trivial⟩, trivial⟩, fun e => by cases e⟩, aq_hs_of false kA, aq_hs_of true kB, trivial, ⟨_, fun t ht => absurd ht List.not_mem_nil, ae_fr_rf _ _ _ _, fun m hm => absurd hm List.not_mem_nil⟩⟩ (by decide) (fun _ _ => rfl)
  · have hq : q ∈ ([(1, 6, 899), (2, (-128), 127), (3, (-2147483648), 2147483647), (4, (-2147483648), 2147483647), (5, (-2147483648), 2147483647), (6, (-2147483648), 2147483647), (7, (-2147483648), 2147483647)] : ae_B) := hq
    simp only [List.mem_cons, List.not_mem_nil, or_false] at hq
    rcases hq with rfl | rfl | rfl | rfl | rfl | rfl | rfl
    · exact ⟨(by decide : 1 < 8), by show (6 : Int) ≤ (J : Int); omega, by show (J : Int) ≤ 899; omega⟩
    · exact ⟨(by decide : 2 < 8), x3, x4⟩
    · exact ⟨(by decide : 3 < 8), fd_i32 a1⟩
    · exact ⟨(by decide : 4 < 8), fd_i32 a2⟩
    · exact ⟨(by decide : 5 < 8), fd_i32 a3⟩
    · exact ⟨(by decide : 6 < 8), fd_i32 a4⟩
    · exact ⟨(by decide : 7 < 8), fd_i32 a5⟩
  · have hm : m ∈ ([(3, (8, []), (0, 0, ((-6), [(1, 1)])), false), (219, (8, []), (0, 0, ((-6), [(1, 1)])), false), (4, (0, [(1, 1)]), (0, 0, (0, [(2, 1)])), false), (223, (0, [(1, 1)]), (0, 0, (0, [(2, 1)])), false)] : List ae_M) := hm
    simp only [List.mem_cons, List.not_mem_nil, or_false] at hm
    rcases hm with rfl | rfl | rfl | rfl
    · exact aq_eo kM (j := 8) ⟨by decide, by decide, by decide⟩ rfl rfl rfl rfl (by rw [aq_ciA l1 l2 rfl, c1]; show (-6 : Int) + (1 * J + 0) = s; omega)
    · exact aq_eo kM (j := 8) ⟨by decide, by decide, by decide⟩ rfl rfl rfl rfl (by rw [aq_ciB l1 l2 rfl, c2]; show (-6 : Int) + (1 * J + 0) = s; omega)
    · exact aq_eo kM (j := J) ⟨by decide, by decide, hJ⟩ rfl rfl rfl (by show (0 : Int) + (1 * (J : Int) + 0) = J; omega) (by rw [aq_ciA l1 l2 rfl, ← x2]; show (0 : Int) + (1 * x.toInt + 0) = x.toInt; omega)
    · exact aq_eo kM (j := J) ⟨by decide, by decide, hJ⟩ rfl rfl rfl (by show (0 : Int) + (1 * (J : Int) + 0) = J; omega) (by rw [aq_ciB l1 l2 rfl, e2]; show (0 : Int) + (1 * x.toInt + 0) = x.toInt; omega)
  · exact fd_lv rfl (by decide) rfl rfl rfl rfl rfl
  · exact fd_lv rfl (by decide) rfl rfl rfl rfl rfl
theorem fd_8 (hL : L ≤ 3072) {hA hB : List am_E} (kA : ae_hk false L xs hA) (kB : ae_hk false L xs hB) {J : Nat} {s : Int} {a1 a2 a3 a4 a5 : Int32} {d : Nat} (hd : 12 ≤ d) (hJ : J < 900) (s0 : 0 ≤ s) (s9 : s ≤ 900) (hc : J = s + 7) (c1 : aq_ci L xs hA 3 8 = s) (c2 : aq_ci L xs hB 219 8 = s) (mir : ae_cell L xs hB 223 J = ae_cell L xs hA 4 J) :
    ap_end fd_mo L xs (fd_Q L xs J) ([(d, 144, 0, lv_args 0 [.ref 1, .int a1, .int a2, .int a3, .int a4, .int a5], [])], none) ([(d, 248, 0, lv_args 0 [.ref 219, .int a1, .int a2, .int a3, .int a4, .int a5], [])], none) hA hB := by
  have kM := aq_mixhk kA kB
  have l1 := kA.1.1
  have l2 := kB.1.1
  obtain ⟨x, x1, x2, x3, x4⟩ := aq_int kA (p := 4) (j := J) ⟨by decide, by decide, hJ⟩ rfl
  have x3 : (-128 : Int) ≤ x.toInt := x3
  have x4 : x.toInt ≤ 127 := x4
  have e2 : aq_ci L xs hB 223 J = x.toInt := by unfold aq_ci; rw [mir, x1]; rfl
  refine ab_all (W := fd_W8) (G := fun _ => True) (Q := fd_Q L xs J) (r0 := fd_r L J x.toInt a1.toInt a2.toInt a3.toInt a4.toInt a5.toInt s) ae_rok_ok ae_fok_ok hL (fun c h => absurd h List.not_mem_nil) (by decide +kernel) (fun _ _ _ _ => trivial) (fun z o ρ g1 g2 h1 h2 q S => ad_sb_ok q S) (ad_cons (Or.inl ⟨4000, true, true, fd_k8⟩) (ad_cons (Or.inr (fd_end rfl rfl)) ad_nil)) fd_s8 List.mem_cons_self (fd_r L J x.toInt a1.toInt a2.toInt a3.toInt a4.toInt a5.toInt s) _ _ hA hB ⟨⟨fun q hq => ?_, fun f hf => absurd hf List.not_mem_nil, fun d hd => absurd hd List.not_mem_nil⟩, ⟨⟨by decide, by omega⟩, rfl⟩, ad_hp_new kM (fun m hm => ?_), ⟨⟨⟨hd, rfl, rfl, ?_, trivial⟩, trivial⟩, fun e => by cases e⟩, ⟨⟨⟨hd, rfl, rfl, ?_, trivial⟩, trivial⟩, fun e => by cases e⟩, aq_hs_of false kA, aq_hs_of true kB, trivial, ⟨_, fun t ht => absurd ht List.not_mem_nil, ae_fr_rf _ _ _ _, fun m hm => absurd hm List.not_mem_nil⟩⟩ (by decide) (fun _ _ => rfl)
  · have hq : q ∈ ([(1, 7, 899), (2, (-128), 127), (3, (-2147483648), 2147483647), (4, (-2147483648), 2147483647), (5, (-2147483648), 2147483647), (6, (-2147483648), 2147483647), (7, (-2147483648), 2147483647)] : ae_B) := hq
    simp only [List.mem_cons, List.not_mem_nil, or_false] at hq
    rcases hq with rfl | rfl | rfl | rfl | rfl | rfl | rfl
    · exact ⟨(by decide : 1 < 8), by show (7 : Int) ≤ (J : Int); omega, by show (J : Int) ≤ 899; omega⟩
    · exact ⟨(by decide : 2 < 8), x3, x4⟩
    · exact ⟨(by decide : 3 < 8), fd_i32 a1⟩
    · exact ⟨(by decide : 4 < 8), fd_i32 a2⟩
    · exact ⟨(by decide : 5 < 8), fd_i32 a3⟩
    · exact ⟨(by decide : 6 < 8), fd_i32 a4⟩
    · exact ⟨(by decide : 7 < 8), fd_i32 a5⟩
  · have hm : m ∈ ([(3, (8, []), (0, 0, ((-7), [(1, 1)])), false), (219, (8, []), (0, 0, ((-7), [(1, 1)])), false), (4, (0, [(1, 1)]), (0, 0, (0, [(2, 1)])), false), (223, (0, [(1, 1)]), (0, 0, (0, [(2, 1)])), false)] : List ae_M) := hm
    simp only [List.mem_cons, List.not_mem_nil, or_false] at hm
    rcases hm with rfl | rfl | rfl | rfl
    · exact aq_eo kM (j := 8) ⟨by decide, by decide, by decide⟩ rfl rfl rfl rfl (by rw [aq_ciA l1 l2 rfl, c1]; show (-7 : Int) + (1 * J + 0) = s; omega)
    · exact aq_eo kM (j := 8) ⟨by decide, by decide, by decide⟩ rfl rfl rfl rfl (by rw [aq_ciB l1 l2 rfl, c2]; show (-7 : Int) + (1 * J + 0) = s; omega)
    · exact aq_eo kM (j := J) ⟨by decide, by decide, hJ⟩ rfl rfl rfl (by show (0 : Int) + (1 * (J : Int) + 0) = J; omega) (by rw [aq_ciA l1 l2 rfl, ← x2]; show (0 : Int) + (1 * x.toInt + 0) = x.toInt; omega)
    · exact aq_eo kM (j := J) ⟨by decide, by decide, hJ⟩ rfl rfl rfl (by show (0 : Int) + (1 * (J : Int) + 0) = J; omega) (by rw [aq_ciB l1 l2 rfl, e2]; show (0 : Int) + (1 * x.toInt + 0) = x.toInt; omega)
  · exact fd_lv rfl (by decide) rfl rfl rfl rfl rfl
  · exact fd_lv rfl (by decide) rfl rfl rfl rfl rfl
theorem fd_9 (hL : L ≤ 3072) {hA hB : List am_E} (kA : ae_hk false L xs hA) (kB : ae_hk false L xs hB) {J : Nat} {s : Int} {a1 a2 a3 a4 a5 : Int32} {d : Nat} (hd : 12 ≤ d) (hJ : J < 900) (s0 : 0 ≤ s) (s9 : s ≤ 900) (hc : J = s + 8) (c1 : aq_ci L xs hA 3 8 = s) (c2 : aq_ci L xs hB 219 8 = s) (mir : ae_cell L xs hB 223 J = ae_cell L xs hA 4 J) :
    ap_end fd_mo L xs (fd_Q L xs J) ([(d, 144, 0, lv_args 0 [.ref 1, .int a1, .int a2, .int a3, .int a4, .int a5], [])], none) ([(d, 248, 0, lv_args 0 [.ref 219, .int a1, .int a2, .int a3, .int a4, .int a5], [])], none) hA hB := by
  have kM := aq_mixhk kA kB
  have l1 := kA.1.1
  have l2 := kB.1.1
  obtain ⟨x, x1, x2, x3, x4⟩ := aq_int kA (p := 4) (j := J) ⟨by decide, by decide, hJ⟩ rfl
  have x3 : (-128 : Int) ≤ x.toInt := x3
  have x4 : x.toInt ≤ 127 := x4
  have e2 : aq_ci L xs hB 223 J = x.toInt := by unfold aq_ci; rw [mir, x1]; rfl
  refine ab_all (W := fd_W9) (G := fun _ => True) (Q := fd_Q L xs J) (r0 := fd_r L J x.toInt a1.toInt a2.toInt a3.toInt a4.toInt a5.toInt s) ae_rok_ok ae_fok_ok hL (fun c h => absurd h List.not_mem_nil) (by decide +kernel) (fun _ _ _ _ => trivial) (fun z o ρ g1 g2 h1 h2 q S => ad_sb_ok q S) (ad_cons (Or.inl ⟨4000, true, true, fd_k9⟩) (ad_cons (Or.inr (fd_end rfl rfl)) ad_nil)) fd_s9 List.mem_cons_self (fd_r L J x.toInt a1.toInt a2.toInt a3.toInt a4.toInt a5.toInt s) _ _ hA hB ⟨⟨fun q hq => ?_, fun f hf => absurd hf List.not_mem_nil, fun d hd => absurd hd List.not_mem_nil⟩, ⟨⟨by decide, by omega⟩, rfl⟩, ad_hp_new kM (fun m hm => ?_), ⟨⟨⟨hd, rfl, rfl, ?_, trivial⟩, trivial⟩, fun e => by cases e⟩, ⟨⟨⟨hd, rfl, rfl, ?_, trivial⟩, trivial⟩, fun e => by cases e⟩, aq_hs_of false kA, aq_hs_of true kB, trivial, ⟨_, fun t ht => absurd ht List.not_mem_nil, ae_fr_rf _ _ _ _, fun m hm => absurd hm List.not_mem_nil⟩⟩ (by decide) (fun _ _ => rfl)
  · have hq : q ∈ ([(1, 8, 899), (2, (-128), 127), (3, (-2147483648), 2147483647), (4, (-2147483648), 2147483647), (5, (-2147483648), 2147483647), (6, (-2147483648), 2147483647), (7, (-2147483648), 2147483647)] : ae_B) := hq
    simp only [List.mem_cons, List.not_mem_nil, or_false] at hq
    rcases hq with rfl | rfl | rfl | rfl | rfl | rfl | rfl
    · exact ⟨(by decide : 1 < 8), by show (8 : Int) ≤ (J : Int); omega, by show (J : Int) ≤ 899; omega⟩
    · exact ⟨(by decide : 2 < 8), x3, x4⟩
    · exact ⟨(by decide : 3 < 8), fd_i32 a1⟩
    · exact ⟨(by decide : 4 < 8), fd_i32 a2⟩
    · exact ⟨(by decide : 5 < 8), fd_i32 a3⟩
    · exact ⟨(by decide : 6 < 8), fd_i32 a4⟩
    · exact ⟨(by decide : 7 < 8), fd_i32 a5⟩
  · have hm : m ∈ ([(3, (8, []), (0, 0, ((-8), [(1, 1)])), false), (219, (8, []), (0, 0, ((-8), [(1, 1)])), false), (4, (0, [(1, 1)]), (0, 0, (0, [(2, 1)])), false), (223, (0, [(1, 1)]), (0, 0, (0, [(2, 1)])), false)] : List ae_M) := hm
    simp only [List.mem_cons, List.not_mem_nil, or_false] at hm
    rcases hm with rfl | rfl | rfl | rfl
    · exact aq_eo kM (j := 8) ⟨by decide, by decide, by decide⟩ rfl rfl rfl rfl (by rw [aq_ciA l1 l2 rfl, c1]; show (-8 : Int) + (1 * J + 0) = s; omega)
    · exact aq_eo kM (j := 8) ⟨by decide, by decide, by decide⟩ rfl rfl rfl rfl (by rw [aq_ciB l1 l2 rfl, c2]; show (-8 : Int) + (1 * J + 0) = s; omega)
    · exact aq_eo kM (j := J) ⟨by decide, by decide, hJ⟩ rfl rfl rfl (by show (0 : Int) + (1 * (J : Int) + 0) = J; omega) (by rw [aq_ciA l1 l2 rfl, ← x2]; show (0 : Int) + (1 * x.toInt + 0) = x.toInt; omega)
    · exact aq_eo kM (j := J) ⟨by decide, by decide, hJ⟩ rfl rfl rfl (by show (0 : Int) + (1 * (J : Int) + 0) = J; omega) (by rw [aq_ciB l1 l2 rfl, e2]; show (0 : Int) + (1 * x.toInt + 0) = x.toInt; omega)
  · exact fd_lv rfl (by decide) rfl rfl rfl rfl rfl
  · exact fd_lv rfl (by decide) rfl rfl rfl rfl rfl
theorem fd_10 (hL : L ≤ 3072) {hA hB : List am_E} (kA : ae_hk false L xs hA) (kB : ae_hk false L xs hB) {J : Nat} {s : Int} {a1 a2 a3 a4 a5 : Int32} {d : Nat} (hd : 12 ≤ d) (hJ : J < 900) (s0 : 0 ≤ s) (s9 : s ≤ 900) (hc : J = s + 9) (c1 : aq_ci L xs hA 3 8 = s) (c2 : aq_ci L xs hB 219 8 = s) (mir : ae_cell L xs hB 223 J = ae_cell L xs hA 4 J) :
    ap_end fd_mo L xs (fd_Q L xs J) ([(d, 144, 0, lv_args 0 [.ref 1, .int a1, .int a2, .int a3, .int a4, .int a5], [])], none) ([(d, 248, 0, lv_args 0 [.ref 219, .int a1, .int a2, .int a3, .int a4, .int a5], [])], none) hA hB := by
  have kM := aq_mixhk kA kB
  have l1 := kA.1.1
  have l2 := kB.1.1
  obtain ⟨x, x1, x2, x3, x4⟩ := aq_int kA (p := 4) (j := J) ⟨by decide, by decide, hJ⟩ rfl
  have x3 : (-128 : Int) ≤ x.toInt := x3
  have x4 : x.toInt ≤ 127 := x4
  have e2 : aq_ci L xs hB 223 J = x.toInt := by unfold aq_ci; rw [mir, x1]; rfl
  refine ab_all (W := fd_W10) (G := fun _ => True) (Q := fd_Q L xs J) (r0 := fd_r L J x.toInt a1.toInt a2.toInt a3.toInt a4.toInt a5.toInt s) ae_rok_ok ae_fok_ok hL (fun c h => absurd h List.not_mem_nil) (by decide +kernel) (fun _ _ _ _ => trivial) (fun z o ρ g1 g2 h1 h2 q S => ad_sb_ok q S) (ad_cons (Or.inl ⟨4000, true, true, fd_k10⟩) (ad_cons (Or.inr (fd_end rfl rfl)) ad_nil)) fd_s10 List.mem_cons_self (fd_r L J x.toInt a1.toInt a2.toInt a3.toInt a4.toInt a5.toInt s) _ _ hA hB ⟨⟨fun q hq => ?_, fun f hf => absurd hf List.not_mem_nil, fun d hd => absurd hd List.not_mem_nil⟩, ⟨⟨by decide, by omega⟩, rfl⟩, ad_hp_new kM (fun m hm => ?_), ⟨⟨⟨hd, rfl, rfl, ?_, trivial⟩, trivial⟩, fun e => by cases e⟩, ⟨⟨⟨hd, rfl, rfl, ?_, trivial⟩, trivial⟩, fun e => by cases e⟩, aq_hs_of false kA, aq_hs_of true kB, trivial, ⟨_, fun t ht => absurd ht List.not_mem_nil, ae_fr_rf _ _ _ _, fun m hm => absurd hm List.not_mem_nil⟩⟩ (by decide) (fun _ _ => rfl)
  · have hq : q ∈ ([(1, 9, 899), (2, (-128), 127), (3, (-2147483648), 2147483647), (4, (-2147483648), 2147483647), (5, (-2147483648), 2147483647), (6, (-2147483648), 2147483647), (7, (-2147483648), 2147483647)] : ae_B) := hq
    simp only [List.mem_cons, List.not_mem_nil, or_false] at hq
    rcases hq with rfl | rfl | rfl | rfl | rfl | rfl | rfl
    · exact ⟨(by decide : 1 < 8), by show (9 : Int) ≤ (J : Int); omega, by show (J : Int) ≤ 899; omega⟩
    · exact ⟨(by decide : 2 < 8), x3, x4⟩
    · exact ⟨(by decide : 3 < 8), fd_i32 a1⟩
    · exact ⟨(by decide : 4 < 8), fd_i32 a2⟩
    · exact ⟨(by decide : 5 < 8), fd_i32 a3⟩
    · exact ⟨(by decide : 6 < 8), fd_i32 a4⟩
    · exact ⟨(by decide : 7 < 8), fd_i32 a5⟩
  · have hm : m ∈ ([(3, (8, []), (0, 0, ((-9), [(1, 1)])), false), (219, (8, []), (0, 0, ((-9), [(1, 1)])), false), (4, (0, [(1, 1)]), (0, 0, (0, [(2, 1)])), false), (223, (0, [(1, 1)]), (0, 0, (0, [(2, 1)])), false)] : List ae_M) := hm
    simp only [List.mem_cons, List.not_mem_nil, or_false] at hm
    rcases hm with rfl | rfl | rfl | rfl
    · exact aq_eo kM (j := 8) ⟨by decide, by decide, by decide⟩ rfl rfl rfl rfl (by rw [aq_ciA l1 l2 rfl, c1]; show (-9 : Int) + (1 * J + 0) = s; omega)
    · exact aq_eo kM (j := 8) ⟨by decide, by decide, by decide⟩ rfl rfl rfl rfl (by rw [aq_ciB l1 l2 rfl, c2]; show (-9 : Int) + (1 * J + 0) = s; omega)
    · exact aq_eo kM (j := J) ⟨by decide, by decide, hJ⟩ rfl rfl rfl (by show (0 : Int) + (1 * (J : Int) + 0) = J; omega) (by rw [aq_ciA l1 l2 rfl, ← x2]; show (0 : Int) + (1 * x.toInt + 0) = x.toInt; omega)
    · exact aq_eo kM (j := J) ⟨by decide, by decide, hJ⟩ rfl rfl rfl (by show (0 : Int) + (1 * (J : Int) + 0) = J; omega) (by rw [aq_ciB l1 l2 rfl, e2]; show (0 : Int) + (1 * x.toInt + 0) = x.toInt; omega)
  · exact fd_lv rfl (by decide) rfl rfl rfl rfl rfl
  · exact fd_lv rfl (by decide) rfl rfl rfl rfl rfl
theorem fd_11 (hL : L ≤ 3072) {hA hB : List am_E} (kA : ae_hk false L xs hA) (kB : ae_hk false L xs hB) {J : Nat} {s : Int} {a1 a2 a3 a4 a5 : Int32} {d : Nat} (hd : 12 ≤ d) (hJ : J < 900) (s0 : 0 ≤ s) (s9 : s ≤ 900) (hc : J = s + 10) (c1 : aq_ci L xs hA 3 8 = s) (c2 : aq_ci L xs hB 219 8 = s) (mir : ae_cell L xs hB 223 J = ae_cell L xs hA 4 J) :
    ap_end fd_mo L xs (fd_Q L xs J) ([(d, 144, 0, lv_args 0 [.ref 1, .int a1, .int a2, .int a3, .int a4, .int a5], [])], none) ([(d, 248, 0, lv_args 0 [.ref 219, .int a1, .int a2, .int a3, .int a4, .int a5], [])], none) hA hB := by
  have kM := aq_mixhk kA kB
  have l1 := kA.1.1
  have l2 := kB.1.1
  obtain ⟨x, x1, x2, x3, x4⟩ := aq_int kA (p := 4) (j := J) ⟨by decide, by decide, hJ⟩ rfl
  have x3 : (-128 : Int) ≤ x.toInt := x3
  have x4 : x.toInt ≤ 127 := x4
  have e2 : aq_ci L xs hB 223 J = x.toInt := by unfold aq_ci; rw [mir, x1]; rfl
  refine ab_all (W := fd_W11) (G := fun _ => True) (Q := fd_Q L xs J) (r0 := fd_r L J x.toInt a1.toInt a2.toInt a3.toInt a4.toInt a5.toInt s) ae_rok_ok ae_fok_ok hL (fun c h => absurd h List.not_mem_nil) (by decide +kernel) (fun _ _ _ _ => trivial) (fun z o ρ g1 g2 h1 h2 q S => ad_sb_ok q S) (ad_cons (Or.inl ⟨4000, true, true, fd_k11⟩) (ad_cons (Or.inr (fd_end rfl rfl)) ad_nil)) fd_s11 List.mem_cons_self (fd_r L J x.toInt a1.toInt a2.toInt a3.toInt a4.toInt a5.toInt s) _ _ hA hB ⟨⟨fun q hq => ?_, fun f hf => absurd hf List.not_mem_nil, fun d hd => absurd hd List.not_mem_nil⟩, ⟨⟨by decide, by omega⟩, rfl⟩, ad_hp_new kM (fun m hm => ?_), ⟨⟨⟨hd, rfl, rfl, ?_, trivial⟩, trivial⟩, fun e => by cases e⟩, ⟨⟨⟨hd, rfl, rfl, ?_, trivial⟩, trivial⟩, fun e => by cases e⟩, aq_hs_of false kA, aq_hs_of true kB, trivial, ⟨_, fun t ht => absurd ht List.not_mem_nil, ae_fr_rf _ _ _ _, fun m hm => absurd hm List.not_mem_nil⟩⟩ (by decide) (fun _ _ => rfl)
  · have hq : q ∈ ([(1, 10, 899), (2, (-128), 127), (3, (-2147483648), 2147483647), (4, (-2147483648), 2147483647), (5, (-2147483648), 2147483647), (6, (-2147483648), 2147483647), (7, (-2147483648), 2147483647)] : ae_B) := hq
    simp only [List.mem_cons, List.not_mem_nil, or_false] at hq
    rcases hq with rfl | rfl | rfl | rfl | rfl | rfl | rfl
    · exact ⟨(by decide : 1 < 8), by show (10 : Int) ≤ (J : Int); omega, by show (J : Int) ≤ 899; omega⟩
    · exact ⟨(by decide : 2 < 8), x3, x4⟩
    · exact ⟨(by decide : 3 < 8), fd_i32 a1⟩
    · exact ⟨(by decide : 4 < 8), fd_i32 a2⟩
    · exact ⟨(by decide : 5 < 8), fd_i32 a3⟩
    · exact ⟨(by decide : 6 < 8), fd_i32 a4⟩
    · exact ⟨(by decide : 7 < 8), fd_i32 a5⟩
  · have hm : m ∈ ([(3, (8, []), (0, 0, ((-10), [(1, 1)])), false), (219, (8, []), (0, 0, ((-10), [(1, 1)])), false), (4, (0, [(1, 1)]), (0, 0, (0, [(2, 1)])), false), (223, (0, [(1, 1)]), (0, 0, (0, [(2, 1)])), false)] : List ae_M) := hm
    simp only [List.mem_cons, List.not_mem_nil, or_false] at hm
    rcases hm with rfl | rfl | rfl | rfl
    · exact aq_eo kM (j := 8) ⟨by decide, by decide, by decide⟩ rfl rfl rfl rfl (by rw [aq_ciA l1 l2 rfl, c1]; show (-10 : Int) + (1 * J + 0) = s; omega)
    · exact aq_eo kM (j := 8) ⟨by decide, by decide, by decide⟩ rfl rfl rfl rfl (by rw [aq_ciB l1 l2 rfl, c2]; show (-10 : Int) + (1 * J + 0) = s; omega)
    · exact aq_eo kM (j := J) ⟨by decide, by decide, hJ⟩ rfl rfl rfl (by show (0 : Int) + (1 * (J : Int) + 0) = J; omega) (by rw [aq_ciA l1 l2 rfl, ← x2]; show (0 : Int) + (1 * x.toInt + 0) = x.toInt; omega)
    · exact aq_eo kM (j := J) ⟨by decide, by decide, hJ⟩ rfl rfl rfl (by show (0 : Int) + (1 * (J : Int) + 0) = J; omega) (by rw [aq_ciB l1 l2 rfl, e2]; show (0 : Int) + (1 * x.toInt + 0) = x.toInt; omega)
  · exact fd_lv rfl (by decide) rfl rfl rfl rfl rfl
  · exact fd_lv rfl (by decide) rfl rfl rfl rfl rfl
theorem fd_12 (hL : L ≤ 3072) {hA hB : List am_E} (kA : ae_hk false L xs hA) (kB : ae_hk false L xs hB) {J : Nat} {s : Int} {a1 a2 a3 a4 a5 : Int32} {d : Nat} (hd : 12 ≤ d) (hJ : J < 900) (s0 : 0 ≤ s) (s9 : s ≤ 900) (hc : J = s + 11) (c1 : aq_ci L xs hA 3 8 = s) (c2 : aq_ci L xs hB 219 8 = s) (mir : ae_cell L xs hB 223 J = ae_cell L xs hA 4 J) :
    ap_end fd_mo L xs (fd_Q L xs J) ([(d, 144, 0, lv_args 0 [.ref 1, .int a1, .int a2, .int a3, .int a4, .int a5], [])], none) ([(d, 248, 0, lv_args 0 [.ref 219, .int a1, .int a2, .int a3, .int a4, .int a5], [])], none) hA hB := by
  have kM := aq_mixhk kA kB
  have l1 := kA.1.1
  have l2 := kB.1.1
  obtain ⟨x, x1, x2, x3, x4⟩ := aq_int kA (p := 4) (j := J) ⟨by decide, by decide, hJ⟩ rfl
  have x3 : (-128 : Int) ≤ x.toInt := x3
  have x4 : x.toInt ≤ 127 := x4
  have e2 : aq_ci L xs hB 223 J = x.toInt := by unfold aq_ci; rw [mir, x1]; rfl
  refine ab_all (W := fd_W12) (G := fun _ => True) (Q := fd_Q L xs J) (r0 := fd_r L J x.toInt a1.toInt a2.toInt a3.toInt a4.toInt a5.toInt s) ae_rok_ok ae_fok_ok hL (fun c h => absurd h List.not_mem_nil) (by decide +kernel) (fun _ _ _ _ => trivial) (fun z o ρ g1 g2 h1 h2 q S => ad_sb_ok q S) (ad_cons (Or.inl ⟨4000, true, true, fd_k12⟩) (ad_cons (Or.inr (fd_end rfl rfl)) ad_nil)) fd_s12 List.mem_cons_self (fd_r L J x.toInt a1.toInt a2.toInt a3.toInt a4.toInt a5.toInt s) _ _ hA hB ⟨⟨fun q hq => ?_, fun f hf => absurd hf List.not_mem_nil, fun d hd => absurd hd List.not_mem_nil⟩, ⟨⟨by decide, by omega⟩, rfl⟩, ad_hp_new kM (fun m hm => ?_), ⟨⟨⟨hd, rfl, rfl, ?_, trivial⟩, trivial⟩, fun e => by cases e⟩, ⟨⟨⟨hd, rfl, rfl, ?_, trivial⟩, trivial⟩, fun e => by cases e⟩, aq_hs_of false kA, aq_hs_of true kB, trivial, ⟨_, fun t ht => absurd ht List.not_mem_nil, ae_fr_rf _ _ _ _, fun m hm => absurd hm List.not_mem_nil⟩⟩ (by decide) (fun _ _ => rfl)
  · have hq : q ∈ ([(1, 11, 899), (2, (-128), 127), (3, (-2147483648), 2147483647), (4, (-2147483648), 2147483647), (5, (-2147483648), 2147483647), (6, (-2147483648), 2147483647), (7, (-2147483648), 2147483647)] : ae_B) := hq
    simp only [List.mem_cons, List.not_mem_nil, or_false] at hq
    rcases hq with rfl | rfl | rfl | rfl | rfl | rfl | rfl
    · exact ⟨(by decide : 1 < 8), by show (11 : Int) ≤ (J : Int); omega, by show (J : Int) ≤ 899; omega⟩
    · exact ⟨(by decide : 2 < 8), x3, x4⟩
    · exact ⟨(by decide : 3 < 8), fd_i32 a1⟩
    · exact ⟨(by decide : 4 < 8), fd_i32 a2⟩
    · exact ⟨(by decide : 5 < 8), fd_i32 a3⟩
    · exact ⟨(by decide : 6 < 8), fd_i32 a4⟩
    · exact ⟨(by decide : 7 < 8), fd_i32 a5⟩
  · have hm : m ∈ ([(3, (8, []), (0, 0, ((-11), [(1, 1)])), false), (219, (8, []), (0, 0, ((-11), [(1, 1)])), false), (4, (0, [(1, 1)]), (0, 0, (0, [(2, 1)])), false), (223, (0, [(1, 1)]), (0, 0, (0, [(2, 1)])), false)] : List ae_M) := hm
    simp only [List.mem_cons, List.not_mem_nil, or_false] at hm
    rcases hm with rfl | rfl | rfl | rfl
    · exact aq_eo kM (j := 8) ⟨by decide, by decide, by decide⟩ rfl rfl rfl rfl (by rw [aq_ciA l1 l2 rfl, c1]; show (-11 : Int) + (1 * J + 0) = s; omega)
    · exact aq_eo kM (j := 8) ⟨by decide, by decide, by decide⟩ rfl rfl rfl rfl (by rw [aq_ciB l1 l2 rfl, c2]; show (-11 : Int) + (1 * J + 0) = s; omega)
    · exact aq_eo kM (j := J) ⟨by decide, by decide, hJ⟩ rfl rfl rfl (by show (0 : Int) + (1 * (J : Int) + 0) = J; omega) (by rw [aq_ciA l1 l2 rfl, ← x2]; show (0 : Int) + (1 * x.toInt + 0) = x.toInt; omega)
    · exact aq_eo kM (j := J) ⟨by decide, by decide, hJ⟩ rfl rfl rfl (by show (0 : Int) + (1 * (J : Int) + 0) = J; omega) (by rw [aq_ciB l1 l2 rfl, e2]; show (0 : Int) + (1 * x.toInt + 0) = x.toInt; omega)
  · exact fd_lv rfl (by decide) rfl rfl rfl rfl rfl
  · exact fd_lv rfl (by decide) rfl rfl rfl rfl rfl
theorem fd_13 (hL : L ≤ 3072) {hA hB : List am_E} (kA : ae_hk false L xs hA) (kB : ae_hk false L xs hB) {J : Nat} {s : Int} {a1 a2 a3 a4 a5 : Int32} {d : Nat} (hd : 12 ≤ d) (hJ : J < 900) (s0 : 0 ≤ s) (s9 : s ≤ 900) (hc : J = s + 12) (c1 : aq_ci L xs hA 3 8 = s) (c2 : aq_ci L xs hB 219 8 = s) (mir : ae_cell L xs hB 223 J = ae_cell L xs hA 4 J) :
    ap_end fd_mo L xs (fd_Q L xs J) ([(d, 144, 0, lv_args 0 [.ref 1, .int a1, .int a2, .int a3, .int a4, .int a5], [])], none) ([(d, 248, 0, lv_args 0 [.ref 219, .int a1, .int a2, .int a3, .int a4, .int a5], [])], none) hA hB := by
  have kM := aq_mixhk kA kB
  have l1 := kA.1.1
  have l2 := kB.1.1
  obtain ⟨x, x1, x2, x3, x4⟩ := aq_int kA (p := 4) (j := J) ⟨by decide, by decide, hJ⟩ rfl
  have x3 : (-128 : Int) ≤ x.toInt := x3
  have x4 : x.toInt ≤ 127 := x4
  have e2 : aq_ci L xs hB 223 J = x.toInt := by unfold aq_ci; rw [mir, x1]; rfl
  refine ab_all (W := fd_W13) (G := fun _ => True) (Q := fd_Q L xs J) (r0 := fd_r L J x.toInt a1.toInt a2.toInt a3.toInt a4.toInt a5.toInt s) ae_rok_ok ae_fok_ok hL (fun c h => absurd h List.not_mem_nil) (by decide +kernel) (fun _ _ _ _ => trivial) (fun z o ρ g1 g2 h1 h2 q S => ad_sb_ok q S) (ad_cons (Or.inl ⟨4000, true, true, fd_k13⟩) (ad_cons (Or.inr (fd_end rfl rfl)) ad_nil)) fd_s13 List.mem_cons_self (fd_r L J x.toInt a1.toInt a2.toInt a3.toInt a4.toInt a5.toInt s) _ _ hA hB ⟨⟨fun q hq => ?_, fun f hf => absurd hf List.not_mem_nil, fun d hd => absurd hd List.not_mem_nil⟩, ⟨⟨by decide, by omega⟩, rfl⟩, ad_hp_new kM (fun m hm => ?_), ⟨⟨⟨hd, rfl, rfl, ?_, trivial⟩, trivial⟩, fun e => by cases e⟩, ⟨⟨⟨hd, rfl, rfl, ?_, trivial⟩, trivial⟩, fun e => by cases e⟩, aq_hs_of false kA, aq_hs_of true kB, trivial, ⟨_, fun t ht => absurd ht List.not_mem_nil, ae_fr_rf _ _ _ _, fun m hm => absurd hm List.not_mem_nil⟩⟩ (by decide) (fun _ _ => rfl)
  · have hq : q ∈ ([(1, 12, 899), (2, (-128), 127), (3, (-2147483648), 2147483647), (4, (-2147483648), 2147483647), (5, (-2147483648), 2147483647), (6, (-2147483648), 2147483647), (7, (-2147483648), 2147483647)] : ae_B) := hq
    simp only [List.mem_cons, List.not_mem_nil, or_false] at hq
    rcases hq with rfl | rfl | rfl | rfl | rfl | rfl | rfl
    · exact ⟨(by decide : 1 < 8), by show (12 : Int) ≤ (J : Int); omega, by show (J : Int) ≤ 899; omega⟩
    · exact ⟨(by decide : 2 < 8), x3, x4⟩
    · exact ⟨(by decide : 3 < 8), fd_i32 a1⟩
    · exact ⟨(by decide : 4 < 8), fd_i32 a2⟩
    · exact ⟨(by decide : 5 < 8), fd_i32 a3⟩
    · exact ⟨(by decide : 6 < 8), fd_i32 a4⟩
    · exact ⟨(by decide : 7 < 8), fd_i32 a5⟩
  · have hm : m ∈ ([(3, (8, []), (0, 0, ((-12), [(1, 1)])), false), (219, (8, []), (0, 0, ((-12), [(1, 1)])), false), (4, (0, [(1, 1)]), (0, 0, (0, [(2, 1)])), false), (223, (0, [(1, 1)]), (0, 0, (0, [(2, 1)])), false)] : List ae_M) := hm
    simp only [List.mem_cons, List.not_mem_nil, or_false] at hm
    rcases hm with rfl | rfl | rfl | rfl
    · exact aq_eo kM (j := 8) ⟨by decide, by decide, by decide⟩ rfl rfl rfl rfl (by rw [aq_ciA l1 l2 rfl, c1]; show (-12 : Int) + (1 * J + 0) = s; omega)
    · exact aq_eo kM (j := 8) ⟨by decide, by decide, by decide⟩ rfl rfl rfl rfl (by rw [aq_ciB l1 l2 rfl, c2]; show (-12 : Int) + (1 * J + 0) = s; omega)
    · exact aq_eo kM (j := J) ⟨by decide, by decide, hJ⟩ rfl rfl rfl (by show (0 : Int) + (1 * (J : Int) + 0) = J; omega) (by rw [aq_ciA l1 l2 rfl, ← x2]; show (0 : Int) + (1 * x.toInt + 0) = x.toInt; omega)
    · exact aq_eo kM (j := J) ⟨by decide, by decide, hJ⟩ rfl rfl rfl (by show (0 : Int) + (1 * (J : Int) + 0) = J; omega) (by rw [aq_ciB l1 l2 rfl, e2]; show (0 : Int) + (1 * x.toInt + 0) = x.toInt; omega)
  · exact fd_lv rfl (by decide) rfl rfl rfl rfl rfl
  · exact fd_lv rfl (by decide) rfl rfl rfl rfl rfl
theorem fd_14 (hL : L ≤ 3072) {hA hB : List am_E} (kA : ae_hk false L xs hA) (kB : ae_hk false L xs hB) {J : Nat} {s : Int} {a1 a2 a3 a4 a5 : Int32} {d : Nat} (hd : 12 ≤ d) (hJ : J < 900) (s0 : 0 ≤ s) (s9 : s ≤ 900) (hc : J = s + 13) (c1 : aq_ci L xs hA 3 8 = s) (c2 : aq_ci L xs hB 219 8 = s) (mir : ae_cell L xs hB 223 J = ae_cell L xs hA 4 J) :
    ap_end fd_mo L xs (fd_Q L xs J) ([(d, 144, 0, lv_args 0 [.ref 1, .int a1, .int a2, .int a3, .int a4, .int a5], [])], none) ([(d, 248, 0, lv_args 0 [.ref 219, .int a1, .int a2, .int a3, .int a4, .int a5], [])], none) hA hB := by
  have kM := aq_mixhk kA kB
  have l1 := kA.1.1
  have l2 := kB.1.1
  obtain ⟨x, x1, x2, x3, x4⟩ := aq_int kA (p := 4) (j := J) ⟨by decide, by decide, hJ⟩ rfl
  have x3 : (-128 : Int) ≤ x.toInt := x3
  have x4 : x.toInt ≤ 127 := x4
  have e2 : aq_ci L xs hB 223 J = x.toInt := by unfold aq_ci; rw [mir, x1]; rfl
  refine ab_all (W := fd_W14) (G := fun _ => True) (Q := fd_Q L xs J) (r0 := fd_r L J x.toInt a1.toInt a2.toInt a3.toInt a4.toInt a5.toInt s) ae_rok_ok ae_fok_ok hL (fun c h => absurd h List.not_mem_nil) (by decide +kernel) (fun _ _ _ _ => trivial) (fun z o ρ g1 g2 h1 h2 q S => ad_sb_ok q S) (ad_cons (Or.inl ⟨4000, true, true, fd_k14⟩) (ad_cons (Or.inr (fd_end rfl rfl)) ad_nil)) fd_s14 List.mem_cons_self (fd_r L J x.toInt a1.toInt a2.toInt a3.toInt a4.toInt a5.toInt s) _ _ hA hB ⟨⟨fun q hq => ?_, fun f hf => absurd hf List.not_mem_nil, fun d hd => absurd hd List.not_mem_nil⟩, ⟨⟨by decide, by omega⟩, rfl⟩, ad_hp_new kM (fun m hm => ?_), ⟨⟨⟨hd, rfl, rfl, ?_, trivial⟩, trivial⟩, fun e => by cases e⟩, ⟨⟨⟨hd, rfl, rfl, ?_, trivial⟩, trivial⟩, fun e => by cases e⟩, aq_hs_of false kA, aq_hs_of true kB, trivial, ⟨_, fun t ht => absurd ht List.not_mem_nil, ae_fr_rf _ _ _ _, fun m hm => absurd hm List.not_mem_nil⟩⟩ (by decide) (fun _ _ => rfl)
  · have hq : q ∈ ([(1, 13, 899), (2, (-128), 127), (3, (-2147483648), 2147483647), (4, (-2147483648), 2147483647), (5, (-2147483648), 2147483647), (6, (-2147483648), 2147483647), (7, (-2147483648), 2147483647)] : ae_B) := hq
    simp only [List.mem_cons, List.not_mem_nil, or_false] at hq
    rcases hq with rfl | rfl | rfl | rfl | rfl | rfl | rfl
    · exact ⟨(by decide : 1 < 8), by show (13 : Int) ≤ (J : Int); omega, by show (J : Int) ≤ 899; omega⟩
    · exact ⟨(by decide : 2 < 8), x3, x4⟩
    · exact ⟨(by decide : 3 < 8), fd_i32 a1⟩
    · exact ⟨(by decide : 4 < 8), fd_i32 a2⟩
    · exact ⟨(by decide : 5 < 8), fd_i32 a3⟩
    · exact ⟨(by decide : 6 < 8), fd_i32 a4⟩
    · exact ⟨(by decide : 7 < 8), fd_i32 a5⟩
  · have hm : m ∈ ([(3, (8, []), (0, 0, ((-13), [(1, 1)])), false), (219, (8, []), (0, 0, ((-13), [(1, 1)])), false), (4, (0, [(1, 1)]), (0, 0, (0, [(2, 1)])), false), (223, (0, [(1, 1)]), (0, 0, (0, [(2, 1)])), false)] : List ae_M) := hm
    simp only [List.mem_cons, List.not_mem_nil, or_false] at hm
    rcases hm with rfl | rfl | rfl | rfl
    · exact aq_eo kM (j := 8) ⟨by decide, by decide, by decide⟩ rfl rfl rfl rfl (by rw [aq_ciA l1 l2 rfl, c1]; show (-13 : Int) + (1 * J + 0) = s; omega)
    · exact aq_eo kM (j := 8) ⟨by decide, by decide, by decide⟩ rfl rfl rfl rfl (by rw [aq_ciB l1 l2 rfl, c2]; show (-13 : Int) + (1 * J + 0) = s; omega)
    · exact aq_eo kM (j := J) ⟨by decide, by decide, hJ⟩ rfl rfl rfl (by show (0 : Int) + (1 * (J : Int) + 0) = J; omega) (by rw [aq_ciA l1 l2 rfl, ← x2]; show (0 : Int) + (1 * x.toInt + 0) = x.toInt; omega)
    · exact aq_eo kM (j := J) ⟨by decide, by decide, hJ⟩ rfl rfl rfl (by show (0 : Int) + (1 * (J : Int) + 0) = J; omega) (by rw [aq_ciB l1 l2 rfl, e2]; show (0 : Int) + (1 * x.toInt + 0) = x.toInt; omega)
  · exact fd_lv rfl (by decide) rfl rfl rfl rfl rfl
  · exact fd_lv rfl (by decide) rfl rfl rfl rfl rfl
theorem fd_15 (hL : L ≤ 3072) {hA hB : List am_E} (kA : ae_hk false L xs hA) (kB : ae_hk false L xs hB) {J : Nat} {s : Int} {a1 a2 a3 a4 a5 : Int32} {d : Nat} (hd : 12 ≤ d) (hJ : J < 900) (s0 : 0 ≤ s) (s9 : s ≤ 900) (hc : J = s + 14) (c1 : aq_ci L xs hA 3 8 = s) (c2 : aq_ci L xs hB 219 8 = s) (mir : ae_cell L xs hB 223 J = ae_cell L xs hA 4 J) :
    ap_end fd_mo L xs (fd_Q L xs J) ([(d, 144, 0, lv_args 0 [.ref 1, .int a1, .int a2, .int a3, .int a4, .int a5], [])], none) ([(d, 248, 0, lv_args 0 [.ref 219, .int a1, .int a2, .int a3, .int a4, .int a5], [])], none) hA hB := by
  have kM := aq_mixhk kA kB
  have l1 := kA.1.1
  have l2 := kB.1.1
  obtain ⟨x, x1, x2, x3, x4⟩ := aq_int kA (p := 4) (j := J) ⟨by decide, by decide, hJ⟩ rfl
  have x3 : (-128 : Int) ≤ x.toInt := x3
  have x4 : x.toInt ≤ 127 := x4
  have e2 : aq_ci L xs hB 223 J = x.toInt := by unfold aq_ci; rw [mir, x1]; rfl
  refine ab_all (W := fd_W15) (G := fun _ => True) (Q := fd_Q L xs J) (r0 := fd_r L J x.toInt a1.toInt a2.toInt a3.toInt a4.toInt a5.toInt s) ae_rok_ok ae_fok_ok hL (fun c h => absurd h List.not_mem_nil) (by decide +kernel) (fun _ _ _ _ => trivial) (fun z o ρ g1 g2 h1 h2 q S => ad_sb_ok q S) (ad_cons (Or.inl ⟨4000, true, true, fd_k15⟩) (ad_cons (Or.inr (fd_end rfl rfl)) ad_nil)) fd_s15 List.mem_cons_self (fd_r L J x.toInt a1.toInt a2.toInt a3.toInt a4.toInt a5.toInt s) _ _ hA hB ⟨⟨fun q hq => ?_, fun f hf => absurd hf List.not_mem_nil, fun d hd => absurd hd List.not_mem_nil⟩, ⟨⟨by decide, by omega⟩, rfl⟩, ad_hp_new kM (fun m hm => ?_), ⟨⟨⟨hd, rfl, rfl, ?_, trivial⟩, trivial⟩, fun e => by cases e⟩, ⟨⟨⟨hd, rfl, rfl, ?_, trivial⟩, trivial⟩, fun e => by cases e⟩, aq_hs_of false kA, aq_hs_of true kB, trivial, ⟨_, fun t ht => absurd ht List.not_mem_nil, ae_fr_rf _ _ _ _, fun m hm => absurd hm List.not_mem_nil⟩⟩ (by decide) (fun _ _ => rfl)
  · have hq : q ∈ ([(1, 14, 899), (2, (-128), 127), (3, (-2147483648), 2147483647), (4, (-2147483648), 2147483647), (5, (-2147483648), 2147483647), (6, (-2147483648), 2147483647), (7, (-2147483648), 2147483647)] : ae_B) := hq
    simp only [List.mem_cons, List.not_mem_nil, or_false] at hq
    rcases hq with rfl | rfl | rfl | rfl | rfl | rfl | rfl
    · exact ⟨(by decide : 1 < 8), by show (14 : Int) ≤ (J : Int); omega, by show (J : Int) ≤ 899; omega⟩
    · exact ⟨(by decide : 2 < 8), x3, x4⟩
    · exact ⟨(by decide : 3 < 8), fd_i32 a1⟩
    · exact ⟨(by decide : 4 < 8), fd_i32 a2⟩
    · exact ⟨(by decide : 5 < 8), fd_i32 a3⟩
    · exact ⟨(by decide : 6 < 8), fd_i32 a4⟩
    · exact ⟨(by decide : 7 < 8), fd_i32 a5⟩
  · have hm : m ∈ ([(3, (8, []), (0, 0, ((-14), [(1, 1)])), false), (219, (8, []), (0, 0, ((-14), [(1, 1)])), false), (4, (0, [(1, 1)]), (0, 0, (0, [(2, 1)])), false), (223, (0, [(1, 1)]), (0, 0, (0, [(2, 1)])), false)] : List ae_M) := hm
    simp only [List.mem_cons, List.not_mem_nil, or_false] at hm
    rcases hm with rfl | rfl | rfl | rfl
    · exact aq_eo kM (j := 8) ⟨by decide, by decide, by decide⟩ rfl rfl rfl rfl (by rw [aq_ciA l1 l2 rfl, c1]; show (-14 : Int) + (1 * J + 0) = s; omega)
    · exact aq_eo kM (j := 8) ⟨by decide, by decide, by decide⟩ rfl rfl rfl rfl (by rw [aq_ciB l1 l2 rfl, c2]; show (-14 : Int) + (1 * J + 0) = s; omega)
    · exact aq_eo kM (j := J) ⟨by decide, by decide, hJ⟩ rfl rfl rfl (by show (0 : Int) + (1 * (J : Int) + 0) = J; omega) (by rw [aq_ciA l1 l2 rfl, ← x2]; show (0 : Int) + (1 * x.toInt + 0) = x.toInt; omega)
    · exact aq_eo kM (j := J) ⟨by decide, by decide, hJ⟩ rfl rfl rfl (by show (0 : Int) + (1 * (J : Int) + 0) = J; omega) (by rw [aq_ciB l1 l2 rfl, e2]; show (0 : Int) + (1 * x.toInt + 0) = x.toInt; omega)
  · exact fd_lv rfl (by decide) rfl rfl rfl rfl rfl
  · exact fd_lv rfl (by decide) rfl rfl rfl rfl rfl
theorem fd_16 (hL : L ≤ 3072) {hA hB : List am_E} (kA : ae_hk false L xs hA) (kB : ae_hk false L xs hB) {J : Nat} {s : Int} {a1 a2 a3 a4 a5 : Int32} {d : Nat} (hd : 12 ≤ d) (hJ : J < 900) (s0 : 0 ≤ s) (s9 : s ≤ 900) (hc : J = s + 15) (c1 : aq_ci L xs hA 3 8 = s) (c2 : aq_ci L xs hB 219 8 = s) (mir : ae_cell L xs hB 223 J = ae_cell L xs hA 4 J) :
    ap_end fd_mo L xs (fd_Q L xs J) ([(d, 144, 0, lv_args 0 [.ref 1, .int a1, .int a2, .int a3, .int a4, .int a5], [])], none) ([(d, 248, 0, lv_args 0 [.ref 219, .int a1, .int a2, .int a3, .int a4, .int a5], [])], none) hA hB := by
  have kM := aq_mixhk kA kB
  have l1 := kA.1.1
  have l2 := kB.1.1
  obtain ⟨x, x1, x2, x3, x4⟩ := aq_int kA (p := 4) (j := J) ⟨by decide, by decide, hJ⟩ rfl
  have x3 : (-128 : Int) ≤ x.toInt := x3
  have x4 : x.toInt ≤ 127 := x4
  have e2 : aq_ci L xs hB 223 J = x.toInt := by unfold aq_ci; rw [mir, x1]; rfl
  refine ab_all (W := fd_W16) (G := fun _ => True) (Q := fd_Q L xs J) (r0 := fd_r L J x.toInt a1.toInt a2.toInt a3.toInt a4.toInt a5.toInt s) ae_rok_ok ae_fok_ok hL (fun c h => absurd h List.not_mem_nil) (by decide +kernel) (fun _ _ _ _ => trivial) (fun z o ρ g1 g2 h1 h2 q S => ad_sb_ok q S) (ad_cons (Or.inl ⟨4000, true, true, fd_k16⟩) (ad_cons (Or.inr (fd_end rfl rfl)) ad_nil)) fd_s16 List.mem_cons_self (fd_r L J x.toInt a1.toInt a2.toInt a3.toInt a4.toInt a5.toInt s) _ _ hA hB ⟨⟨fun q hq => ?_, fun f hf => absurd hf List.not_mem_nil, fun d hd => absurd hd List.not_mem_nil⟩, ⟨⟨by decide, by omega⟩, rfl⟩, ad_hp_new kM (fun m hm => ?_), ⟨⟨⟨hd, rfl, rfl, ?_, trivial⟩, trivial⟩, fun e => by cases e⟩, ⟨⟨⟨hd, rfl, rfl, ?_, trivial⟩, trivial⟩, fun e => by cases e⟩, aq_hs_of false kA, aq_hs_of true kB, trivial, ⟨_, fun t ht => absurd ht List.not_mem_nil, ae_fr_rf _ _ _ _, fun m hm => absurd hm List.not_mem_nil⟩⟩ (by decide) (fun _ _ => rfl)
  · have hq : q ∈ ([(1, 15, 899), (2, (-128), 127), (3, (-2147483648), 2147483647), (4, (-2147483648), 2147483647), (5, (-2147483648), 2147483647), (6, (-2147483648), 2147483647), (7, (-2147483648), 2147483647)] : ae_B) := hq
    simp only [List.mem_cons, List.not_mem_nil, or_false] at hq
    rcases hq with rfl | rfl | rfl | rfl | rfl | rfl | rfl
    · exact ⟨(by decide : 1 < 8), by show (15 : Int) ≤ (J : Int); omega, by show (J : Int) ≤ 899; omega⟩
    · exact ⟨(by decide : 2 < 8), x3, x4⟩
    · exact ⟨(by decide : 3 < 8), fd_i32 a1⟩
    · exact ⟨(by decide : 4 < 8), fd_i32 a2⟩
    · exact ⟨(by decide : 5 < 8), fd_i32 a3⟩
    · exact ⟨(by decide : 6 < 8), fd_i32 a4⟩
    · exact ⟨(by decide : 7 < 8), fd_i32 a5⟩
  · have hm : m ∈ ([(3, (8, []), (0, 0, ((-15), [(1, 1)])), false), (219, (8, []), (0, 0, ((-15), [(1, 1)])), false), (4, (0, [(1, 1)]), (0, 0, (0, [(2, 1)])), false), (223, (0, [(1, 1)]), (0, 0, (0, [(2, 1)])), false)] : List ae_M) := hm
    simp only [List.mem_cons, List.not_mem_nil, or_false] at hm
    rcases hm with rfl | rfl | rfl | rfl
    · exact aq_eo kM (j := 8) ⟨by decide, by decide, by decide⟩ rfl rfl rfl rfl (by rw [aq_ciA l1 l2 rfl, c1]; show (-15 : Int) + (1 * J + 0) = s; omega)
    · exact aq_eo kM (j := 8) ⟨by decide, by decide, by decide⟩ rfl rfl rfl rfl (by rw [aq_ciB l1 l2 rfl, c2]; show (-15 : Int) + (1 * J + 0) = s; omega)
    · exact aq_eo kM (j := J) ⟨by decide, by decide, hJ⟩ rfl rfl rfl (by show (0 : Int) + (1 * (J : Int) + 0) = J; omega) (by rw [aq_ciA l1 l2 rfl, ← x2]; show (0 : Int) + (1 * x.toInt + 0) = x.toInt; omega)
    · exact aq_eo kM (j := J) ⟨by decide, by decide, hJ⟩ rfl rfl rfl (by show (0 : Int) + (1 * (J : Int) + 0) = J; omega) (by rw [aq_ciB l1 l2 rfl, e2]; show (0 : Int) + (1 * x.toInt + 0) = x.toInt; omega)
  · exact fd_lv rfl (by decide) rfl rfl rfl rfl rfl
  · exact fd_lv rfl (by decide) rfl rfl rfl rfl rfl
theorem fd_17 (hL : L ≤ 3072) {hA hB : List am_E} (kA : ae_hk false L xs hA) (kB : ae_hk false L xs hB) {J : Nat} {s : Int} {a1 a2 a3 a4 a5 : Int32} {d : Nat} (hd : 12 ≤ d) (hJ : J < 900) (s0 : 0 ≤ s) (s9 : s ≤ 900) (hc : J = s + 16) (c1 : aq_ci L xs hA 3 8 = s) (c2 : aq_ci L xs hB 219 8 = s) (mir : ae_cell L xs hB 223 J = ae_cell L xs hA 4 J) :
    ap_end fd_mo L xs (fd_Q L xs J) ([(d, 144, 0, lv_args 0 [.ref 1, .int a1, .int a2, .int a3, .int a4, .int a5], [])], none) ([(d, 248, 0, lv_args 0 [.ref 219, .int a1, .int a2, .int a3, .int a4, .int a5], [])], none) hA hB := by
  have kM := aq_mixhk kA kB
  have l1 := kA.1.1
  have l2 := kB.1.1
  obtain ⟨x, x1, x2, x3, x4⟩ := aq_int kA (p := 4) (j := J) ⟨by decide, by decide, hJ⟩ rfl
  have x3 : (-128 : Int) ≤ x.toInt := x3
  have x4 : x.toInt ≤ 127 := x4
  have e2 : aq_ci L xs hB 223 J = x.toInt := by unfold aq_ci; rw [mir, x1]; rfl
  refine ab_all (W := fd_W17) (G := fun _ => True) (Q := fd_Q L xs J) (r0 := fd_r L J x.toInt a1.toInt a2.toInt a3.toInt a4.toInt a5.toInt s) ae_rok_ok ae_fok_ok hL (fun c h => absurd h List.not_mem_nil) (by decide +kernel) (fun _ _ _ _ => trivial) (fun z o ρ g1 g2 h1 h2 q S => ad_sb_ok q S) (ad_cons (Or.inl ⟨4000, true, true, fd_k17⟩) (ad_cons (Or.inr (fd_end rfl rfl)) ad_nil)) fd_s17 List.mem_cons_self (fd_r L J x.toInt a1.toInt a2.toInt a3.toInt a4.toInt a5.toInt s) _ _ hA hB ⟨⟨fun q hq => ?_, fun f hf => absurd hf List.not_mem_nil, fun d hd => absurd hd List.not_mem_nil⟩, ⟨⟨by decide, by omega⟩, rfl⟩, ad_hp_new kM (fun m hm => ?_), ⟨⟨⟨hd, rfl, rfl, ?_, trivial⟩, trivial⟩, fun e => by cases e⟩, ⟨⟨⟨hd, rfl, rfl, ?_, trivial⟩, trivial⟩, fun e => by cases e⟩, aq_hs_of false kA, aq_hs_of true kB, trivial, ⟨_, fun t ht => absurd ht List.not_mem_nil, ae_fr_rf _ _ _ _, fun m hm => absurd hm List.not_mem_nil⟩⟩ (by decide) (fun _ _ => rfl)
  · have hq : q ∈ ([(1, 16, 899), (2, (-128), 127), (3, (-2147483648), 2147483647), (4, (-2147483648), 2147483647), (5, (-2147483648), 2147483647), (6, (-2147483648), 2147483647), (7, (-2147483648), 2147483647)] : ae_B) := hq
    simp only [List.mem_cons, List.not_mem_nil, or_false] at hq
    rcases hq with rfl | rfl | rfl | rfl | rfl | rfl | rfl
    · exact ⟨(by decide : 1 < 8), by show (16 : Int) ≤ (J : Int); omega, by show (J : Int) ≤ 899; omega⟩
    · exact ⟨(by decide : 2 < 8), x3, x4⟩
    · exact ⟨(by decide : 3 < 8), fd_i32 a1⟩
    · exact ⟨(by decide : 4 < 8), fd_i32 a2⟩
    · exact ⟨(by decide : 5 < 8), fd_i32 a3⟩
    · exact ⟨(by decide : 6 < 8), fd_i32 a4⟩
    · exact ⟨(by decide : 7 < 8), fd_i32 a5⟩
  · have hm : m ∈ ([(3, (8, []), (0, 0, ((-16), [(1, 1)])), false), (219, (8, []), (0, 0, ((-16), [(1, 1)])), false), (4, (0, [(1, 1)]), (0, 0, (0, [(2, 1)])), false), (223, (0, [(1, 1)]), (0, 0, (0, [(2, 1)])), false)] : List ae_M) := hm
    simp only [List.mem_cons, List.not_mem_nil, or_false] at hm
    rcases hm with rfl | rfl | rfl | rfl
    · exact aq_eo kM (j := 8) ⟨by decide, by decide, by decide⟩ rfl rfl rfl rfl (by rw [aq_ciA l1 l2 rfl, c1]; show (-16 : Int) + (1 * J + 0) = s; omega)
    · exact aq_eo kM (j := 8) ⟨by decide, by decide, by decide⟩ rfl rfl rfl rfl (by rw [aq_ciB l1 l2 rfl, c2]; show (-16 : Int) + (1 * J + 0) = s; omega)
    · exact aq_eo kM (j := J) ⟨by decide, by decide, hJ⟩ rfl rfl rfl (by show (0 : Int) + (1 * (J : Int) + 0) = J; omega) (by rw [aq_ciA l1 l2 rfl, ← x2]; show (0 : Int) + (1 * x.toInt + 0) = x.toInt; omega)
    · exact aq_eo kM (j := J) ⟨by decide, by decide, hJ⟩ rfl rfl rfl (by show (0 : Int) + (1 * (J : Int) + 0) = J; omega) (by rw [aq_ciB l1 l2 rfl, e2]; show (0 : Int) + (1 * x.toInt + 0) = x.toInt; omega)
  · exact fd_lv rfl (by decide) rfl rfl rfl rfl rfl
  · exact fd_lv rfl (by decide) rfl rfl rfl rfl rfl
theorem fd_18 (hL : L ≤ 3072) {hA hB : List am_E} (kA : ae_hk false L xs hA) (kB : ae_hk false L xs hB) {J : Nat} {s : Int} {a1 a2 a3 a4 a5 : Int32} {d : Nat} (hd : 12 ≤ d) (hJ : J < 900) (s0 : 0 ≤ s) (s9 : s ≤ 900) (hc : J = s + 17) (c1 : aq_ci L xs hA 3 8 = s) (c2 : aq_ci L xs hB 219 8 = s) (mir : ae_cell L xs hB 223 J = ae_cell L xs hA 4 J) :
    ap_end fd_mo L xs (fd_Q L xs J) ([(d, 144, 0, lv_args 0 [.ref 1, .int a1, .int a2, .int a3, .int a4, .int a5], [])], none) ([(d, 248, 0, lv_args 0 [.ref 219, .int a1, .int a2, .int a3, .int a4, .int a5], [])], none) hA hB := by
  have kM := aq_mixhk kA kB
  have l1 := kA.1.1
  have l2 := kB.1.1
  obtain ⟨x, x1, x2, x3, x4⟩ := aq_int kA (p := 4) (j := J) ⟨by decide, by decide, hJ⟩ rfl
  have x3 : (-128 : Int) ≤ x.toInt := x3
  have x4 : x.toInt ≤ 127 := x4
  have e2 : aq_ci L xs hB 223 J = x.toInt := by unfold aq_ci; rw [mir, x1]; rfl
  refine ab_all (W := fd_W18) (G := fun _ => True) (Q := fd_Q L xs J) (r0 := fd_r L J x.toInt a1.toInt a2.toInt a3.toInt a4.toInt a5.toInt s) ae_rok_ok ae_fok_ok hL (fun c h => absurd h List.not_mem_nil) (by decide +kernel) (fun _ _ _ _ => trivial) (fun z o ρ g1 g2 h1 h2 q S => ad_sb_ok q S) (ad_cons (Or.inl ⟨4000, true, true, fd_k18⟩) (ad_cons (Or.inr (fd_end rfl rfl)) ad_nil)) fd_s18 List.mem_cons_self (fd_r L J x.toInt a1.toInt a2.toInt a3.toInt a4.toInt a5.toInt s) _ _ hA hB ⟨⟨fun q hq => ?_, fun f hf => absurd hf List.not_mem_nil, fun d hd => absurd hd List.not_mem_nil⟩, ⟨⟨by decide, by omega⟩, rfl⟩, ad_hp_new kM (fun m hm => ?_), ⟨⟨⟨hd, rfl, rfl, ?_, trivial⟩, trivial⟩, fun e => by cases e⟩, ⟨⟨⟨hd, rfl, rfl, ?_, trivial⟩, trivial⟩, fun e => by cases e⟩, aq_hs_of false kA, aq_hs_of true kB, trivial, ⟨_, fun t ht => absurd ht List.not_mem_nil, ae_fr_rf _ _ _ _, fun m hm => absurd hm List.not_mem_nil⟩⟩ (by decide) (fun _ _ => rfl)
  · have hq : q ∈ ([(1, 17, 899), (2, (-128), 127), (3, (-2147483648), 2147483647), (4, (-2147483648), 2147483647), (5, (-2147483648), 2147483647), (6, (-2147483648), 2147483647), (7, (-2147483648), 2147483647)] : ae_B) := hq
    simp only [List.mem_cons, List.not_mem_nil, or_false] at hq
    rcases hq with rfl | rfl | rfl | rfl | rfl | rfl | rfl
    · exact ⟨(by decide : 1 < 8), by show (17 : Int) ≤ (J : Int); omega, by show (J : Int) ≤ 899; omega⟩
    · exact ⟨(by decide : 2 < 8), x3, x4⟩
    · exact ⟨(by decide : 3 < 8), fd_i32 a1⟩
    · exact ⟨(by decide : 4 < 8), fd_i32 a2⟩
    · exact ⟨(by decide : 5 < 8), fd_i32 a3⟩
    · exact ⟨(by decide : 6 < 8), fd_i32 a4⟩
    · exact ⟨(by decide : 7 < 8), fd_i32 a5⟩
  · have hm : m ∈ ([(3, (8, []), (0, 0, ((-17), [(1, 1)])), false), (219, (8, []), (0, 0, ((-17), [(1, 1)])), false), (4, (0, [(1, 1)]), (0, 0, (0, [(2, 1)])), false), (223, (0, [(1, 1)]), (0, 0, (0, [(2, 1)])), false)] : List ae_M) := hm
    simp only [List.mem_cons, List.not_mem_nil, or_false] at hm
    rcases hm with rfl | rfl | rfl | rfl
    · exact aq_eo kM (j := 8) ⟨by decide, by decide, by decide⟩ rfl rfl rfl rfl (by rw [aq_ciA l1 l2 rfl, c1]; show (-17 : Int) + (1 * J + 0) = s; omega)
    · exact aq_eo kM (j := 8) ⟨by decide, by decide, by decide⟩ rfl rfl rfl rfl (by rw [aq_ciB l1 l2 rfl, c2]; show (-17 : Int) + (1 * J + 0) = s; omega)
    · exact aq_eo kM (j := J) ⟨by decide, by decide, hJ⟩ rfl rfl rfl (by show (0 : Int) + (1 * (J : Int) + 0) = J; omega) (by rw [aq_ciA l1 l2 rfl, ← x2]; show (0 : Int) + (1 * x.toInt + 0) = x.toInt; omega)
    · exact aq_eo kM (j := J) ⟨by decide, by decide, hJ⟩ rfl rfl rfl (by show (0 : Int) + (1 * (J : Int) + 0) = J; omega) (by rw [aq_ciB l1 l2 rfl, e2]; show (0 : Int) + (1 * x.toInt + 0) = x.toInt; omega)
  · exact fd_lv rfl (by decide) rfl rfl rfl rfl rfl
  · exact fd_lv rfl (by decide) rfl rfl rfl rfl rfl
theorem fd_19 (hL : L ≤ 3072) {hA hB : List am_E} (kA : ae_hk false L xs hA) (kB : ae_hk false L xs hB) {J : Nat} {s : Int} {a1 a2 a3 a4 a5 : Int32} {d : Nat} (hd : 12 ≤ d) (hJ : J < 900) (s0 : 0 ≤ s) (s9 : s ≤ 900) (hc : J = s + 18) (c1 : aq_ci L xs hA 3 8 = s) (c2 : aq_ci L xs hB 219 8 = s) (mir : ae_cell L xs hB 223 J = ae_cell L xs hA 4 J) :
    ap_end fd_mo L xs (fd_Q L xs J) ([(d, 144, 0, lv_args 0 [.ref 1, .int a1, .int a2, .int a3, .int a4, .int a5], [])], none) ([(d, 248, 0, lv_args 0 [.ref 219, .int a1, .int a2, .int a3, .int a4, .int a5], [])], none) hA hB := by
  have kM := aq_mixhk kA kB
  have l1 := kA.1.1
  have l2 := kB.1.1
  obtain ⟨x, x1, x2, x3, x4⟩ := aq_int kA (p := 4) (j := J) ⟨by decide, by decide, hJ⟩ rfl
  have x3 : (-128 : Int) ≤ x.toInt := x3
  have x4 : x.toInt ≤ 127 := x4
  have e2 : aq_ci L xs hB 223 J = x.toInt := by unfold aq_ci; rw [mir, x1]; rfl
  refine ab_all (W := fd_W19) (G := fun _ => True) (Q := fd_Q L xs J) (r0 := fd_r L J x.toInt a1.toInt a2.toInt a3.toInt a4.toInt a5.toInt s) ae_rok_ok ae_fok_ok hL (fun c h => absurd h List.not_mem_nil) (by decide +kernel) (fun _ _ _ _ => trivial) (fun z o ρ g1 g2 h1 h2 q S => ad_sb_ok q S) (ad_cons (Or.inl ⟨4000, true, true, fd_k19⟩) (ad_cons (Or.inr (fd_end rfl rfl)) ad_nil)) fd_s19 List.mem_cons_self (fd_r L J x.toInt a1.toInt a2.toInt a3.toInt a4.toInt a5.toInt s) _ _ hA hB ⟨⟨fun q hq => ?_, fun f hf => absurd hf List.not_mem_nil, fun d hd => absurd hd List.not_mem_nil⟩, ⟨⟨by decide, by omega⟩, rfl⟩, ad_hp_new kM (fun m hm => ?_), ⟨⟨⟨hd, rfl, rfl, ?_, trivial⟩, trivial⟩, fun e => by cases e⟩, ⟨⟨⟨hd, rfl, rfl, ?_, trivial⟩, trivial⟩, fun e => by cases e⟩, aq_hs_of false kA, aq_hs_of true kB, trivial, ⟨_, fun t ht => absurd ht List.not_mem_nil, ae_fr_rf _ _ _ _, fun m hm => absurd hm List.not_mem_nil⟩⟩ (by decide) (fun _ _ => rfl)
  · have hq : q ∈ ([(1, 18, 899), (2, (-128), 127), (3, (-2147483648), 2147483647), (4, (-2147483648), 2147483647), (5, (-2147483648), 2147483647), (6, (-2147483648), 2147483647), (7, (-2147483648), 2147483647)] : ae_B) := hq
    simp only [List.mem_cons, List.not_mem_nil, or_false] at hq
    rcases hq with rfl | rfl | rfl | rfl | rfl | rfl | rfl
    · exact ⟨(by decide : 1 < 8), by show (18 : Int) ≤ (J : Int); omega, by show (J : Int) ≤ 899; omega⟩
    · exact ⟨(by decide : 2 < 8), x3, x4⟩
    · exact ⟨(by decide : 3 < 8), fd_i32 a1⟩
    · exact ⟨(by decide : 4 < 8), fd_i32 a2⟩
    · exact ⟨(by decide : 5 < 8), fd_i32 a3⟩
    · exact ⟨(by decide : 6 < 8), fd_i32 a4⟩
    · exact ⟨(by decide : 7 < 8), fd_i32 a5⟩
  · have hm : m ∈ ([(3, (8, []), (0, 0, ((-18), [(1, 1)])), false), (219, (8, []), (0, 0, ((-18), [(1, 1)])), false), (4, (0, [(1, 1)]), (0, 0, (0, [(2, 1)])), false), (223, (0, [(1, 1)]), (0, 0, (0, [(2, 1)])), false)] : List ae_M) := hm
    simp only [List.mem_cons, List.not_mem_nil, or_false] at hm
    rcases hm with rfl | rfl | rfl | rfl
    · exact aq_eo kM (j := 8) ⟨by decide, by decide, by decide⟩ rfl rfl rfl rfl (by rw [aq_ciA l1 l2 rfl, c1]; show (-18 : Int) + (1 * J + 0) = s; omega)
    · exact aq_eo kM (j := 8) ⟨by decide, by decide, by decide⟩ rfl rfl rfl rfl (by rw [aq_ciB l1 l2 rfl, c2]; show (-18 : Int) + (1 * J + 0) = s; omega)
    · exact aq_eo kM (j := J) ⟨by decide, by decide, hJ⟩ rfl rfl rfl (by show (0 : Int) + (1 * (J : Int) + 0) = J; omega) (by rw [aq_ciA l1 l2 rfl, ← x2]; show (0 : Int) + (1 * x.toInt + 0) = x.toInt; omega)
    · exact aq_eo kM (j := J) ⟨by decide, by decide, hJ⟩ rfl rfl rfl (by show (0 : Int) + (1 * (J : Int) + 0) = J; omega) (by rw [aq_ciB l1 l2 rfl, e2]; show (0 : Int) + (1 * x.toInt + 0) = x.toInt; omega)
  · exact fd_lv rfl (by decide) rfl rfl rfl rfl rfl
  · exact fd_lv rfl (by decide) rfl rfl rfl rfl rfl
theorem fd_20 (hL : L ≤ 3072) {hA hB : List am_E} (kA : ae_hk false L xs hA) (kB : ae_hk false L xs hB) {J : Nat} {s : Int} {a1 a2 a3 a4 a5 : Int32} {d : Nat} (hd : 12 ≤ d) (hJ : J < 900) (s0 : 0 ≤ s) (s9 : s ≤ 900) (hc : J = s + 19) (c1 : aq_ci L xs hA 3 8 = s) (c2 : aq_ci L xs hB 219 8 = s) (mir : ae_cell L xs hB 223 J = ae_cell L xs hA 4 J) :
    ap_end fd_mo L xs (fd_Q L xs J) ([(d, 144, 0, lv_args 0 [.ref 1, .int a1, .int a2, .int a3, .int a4, .int a5], [])], none) ([(d, 248, 0, lv_args 0 [.ref 219, .int a1, .int a2, .int a3, .int a4, .int a5], [])], none) hA hB := by
  have kM := aq_mixhk kA kB
  have l1 := kA.1.1
  have l2 := kB.1.1
  obtain ⟨x, x1, x2, x3, x4⟩ := aq_int kA (p := 4) (j := J) ⟨by decide, by decide, hJ⟩ rfl
  have x3 : (-128 : Int) ≤ x.toInt := x3
  have x4 : x.toInt ≤ 127 := x4
  have e2 : aq_ci L xs hB 223 J = x.toInt := by unfold aq_ci; rw [mir, x1]; rfl
  refine ab_all (W := fd_W20) (G := fun _ => True) (Q := fd_Q L xs J) (r0 := fd_r L J x.toInt a1.toInt a2.toInt a3.toInt a4.toInt a5.toInt s) ae_rok_ok ae_fok_ok hL (fun c h => absurd h List.not_mem_nil) (by decide +kernel) (fun _ _ _ _ => trivial) (fun z o ρ g1 g2 h1 h2 q S => ad_sb_ok q S) (ad_cons (Or.inl ⟨4000, true, true, fd_k20⟩) (ad_cons (Or.inr (fd_end rfl rfl)) ad_nil)) fd_s20 List.mem_cons_self (fd_r L J x.toInt a1.toInt a2.toInt a3.toInt a4.toInt a5.toInt s) _ _ hA hB ⟨⟨fun q hq => ?_, fun f hf => absurd hf List.not_mem_nil, fun d hd => absurd hd List.not_mem_nil⟩, ⟨⟨by decide, by omega⟩, rfl⟩, ad_hp_new kM (fun m hm => ?_), ⟨⟨⟨hd, rfl, rfl, ?_, trivial⟩, trivial⟩, fun e => by cases e⟩, ⟨⟨⟨hd, rfl, rfl, ?_, trivial⟩, trivial⟩, fun e => by cases e⟩, aq_hs_of false kA, aq_hs_of true kB, trivial, ⟨_, fun t ht => absurd ht List.not_mem_nil, ae_fr_rf _ _ _ _, fun m hm => absurd hm List.not_mem_nil⟩⟩ (by decide) (fun _ _ => rfl)
  · have hq : q ∈ ([(1, 19, 899), (2, (-128), 127), (3, (-2147483648), 2147483647), (4, (-2147483648), 2147483647), (5, (-2147483648), 2147483647), (6, (-2147483648), 2147483647), (7, (-2147483648), 2147483647)] : ae_B) := hq
    simp only [List.mem_cons, List.not_mem_nil, or_false] at hq
    rcases hq with rfl | rfl | rfl | rfl | rfl | rfl | rfl
    · exact ⟨(by decide : 1 < 8), by show (19 : Int) ≤ (J : Int); omega, by show (J : Int) ≤ 899; omega⟩
    · exact ⟨(by decide : 2 < 8), x3, x4⟩
    · exact ⟨(by decide : 3 < 8), fd_i32 a1⟩
    · exact ⟨(by decide : 4 < 8), fd_i32 a2⟩
    · exact ⟨(by decide : 5 < 8), fd_i32 a3⟩
    · exact ⟨(by decide : 6 < 8), fd_i32 a4⟩
    · exact ⟨(by decide : 7 < 8), fd_i32 a5⟩
  · have hm : m ∈ ([(3, (8, []), (0, 0, ((-19), [(1, 1)])), false), (219, (8, []), (0, 0, ((-19), [(1, 1)])), false), (4, (0, [(1, 1)]), (0, 0, (0, [(2, 1)])), false), (223, (0, [(1, 1)]), (0, 0, (0, [(2, 1)])), false)] : List ae_M) := hm
    simp only [List.mem_cons, List.not_mem_nil, or_false] at hm
    rcases hm with rfl | rfl | rfl | rfl
    · exact aq_eo kM (j := 8) ⟨by decide, by decide, by decide⟩ rfl rfl rfl rfl (by rw [aq_ciA l1 l2 rfl, c1]; show (-19 : Int) + (1 * J + 0) = s; omega)
    · exact aq_eo kM (j := 8) ⟨by decide, by decide, by decide⟩ rfl rfl rfl rfl (by rw [aq_ciB l1 l2 rfl, c2]; show (-19 : Int) + (1 * J + 0) = s; omega)
    · exact aq_eo kM (j := J) ⟨by decide, by decide, hJ⟩ rfl rfl rfl (by show (0 : Int) + (1 * (J : Int) + 0) = J; omega) (by rw [aq_ciA l1 l2 rfl, ← x2]; show (0 : Int) + (1 * x.toInt + 0) = x.toInt; omega)
    · exact aq_eo kM (j := J) ⟨by decide, by decide, hJ⟩ rfl rfl rfl (by show (0 : Int) + (1 * (J : Int) + 0) = J; omega) (by rw [aq_ciB l1 l2 rfl, e2]; show (0 : Int) + (1 * x.toInt + 0) = x.toInt; omega)
  · exact fd_lv rfl (by decide) rfl rfl rfl rfl rfl
  · exact fd_lv rfl (by decide) rfl rfl rfl rfl rfl
theorem fd_21 (hL : L ≤ 3072) {hA hB : List am_E} (kA : ae_hk false L xs hA) (kB : ae_hk false L xs hB) {J : Nat} {s : Int} {a1 a2 a3 a4 a5 : Int32} {d : Nat} (hd : 12 ≤ d) (hJ : J < 900) (s0 : 0 ≤ s) (s9 : s ≤ 900) (hc : s + 20 ≤ J) (c1 : aq_ci L xs hA 3 8 = s) (c2 : aq_ci L xs hB 219 8 = s) (mir : ae_cell L xs hB 223 J = ae_cell L xs hA 4 J) :
    ap_end fd_mo L xs (fd_Q L xs J) ([(d, 144, 0, lv_args 0 [.ref 1, .int a1, .int a2, .int a3, .int a4, .int a5], [])], none) ([(d, 248, 0, lv_args 0 [.ref 219, .int a1, .int a2, .int a3, .int a4, .int a5], [])], none) hA hB := by
  have kM := aq_mixhk kA kB
  have l1 := kA.1.1
  have l2 := kB.1.1
  obtain ⟨x, x1, x2, x3, x4⟩ := aq_int kA (p := 4) (j := J) ⟨by decide, by decide, hJ⟩ rfl
  have x3 : (-128 : Int) ≤ x.toInt := x3
  have x4 : x.toInt ≤ 127 := x4
  have e2 : aq_ci L xs hB 223 J = x.toInt := by unfold aq_ci; rw [mir, x1]; rfl
  refine ab_all (W := fd_W21) (G := fun _ => True) (Q := fd_Q L xs J) (r0 := fd_r L J x.toInt a1.toInt a2.toInt a3.toInt a4.toInt a5.toInt s) ae_rok_ok ae_fok_ok hL (fun c h => absurd h List.not_mem_nil) (by decide +kernel) (fun _ _ _ _ => trivial) (fun z o ρ g1 g2 h1 h2 q S => ad_sb_ok q S) (ad_cons (Or.inl ⟨4000, true, true, fd_k21⟩) (ad_cons (Or.inr (fd_end rfl rfl)) ad_nil)) fd_s21 List.mem_cons_self (fd_r L J x.toInt a1.toInt a2.toInt a3.toInt a4.toInt a5.toInt s) _ _ hA hB ⟨⟨fun q hq => ?_, fun f hf => by
    have hf : f ∈ ([(20, [(1, (-1)), (8, 1)])] : List ae_X) := hf
    rw [List.mem_singleton.mp hf]
    refine ⟨⟨by decide, by decide, trivial⟩, ?_⟩
    show (20 : Int) + ((-1) * J + (1 * s + 0)) ≤ 0
    omega, fun d hd => absurd hd List.not_mem_nil⟩, ⟨⟨by decide, by omega⟩, rfl⟩, ad_hp_new kM (fun m hm => ?_), ⟨⟨⟨hd, rfl, rfl, ?_, trivial⟩, trivial⟩, fun e => by cases e⟩, ⟨⟨⟨hd, rfl, rfl, ?_, trivial⟩, trivial⟩, fun e => by cases e⟩, aq_hs_of false kA, aq_hs_of true kB, trivial, ⟨_, fun t ht => absurd ht List.not_mem_nil, ae_fr_rf _ _ _ _, fun m hm => absurd hm List.not_mem_nil⟩⟩ (by decide) (fun _ _ => rfl)
  · have hq : q ∈ ([(1, 0, 899), (2, (-128), 127), (3, (-2147483648), 2147483647), (4, (-2147483648), 2147483647), (5, (-2147483648), 2147483647), (6, (-2147483648), 2147483647), (7, (-2147483648), 2147483647), (8, 0, 900)] : ae_B) := hq
    simp only [List.mem_cons, List.not_mem_nil, or_false] at hq
    rcases hq with rfl | rfl | rfl | rfl | rfl | rfl | rfl | rfl
    · exact ⟨(by decide : 1 < 9), by show (0 : Int) ≤ (J : Int); omega, by show (J : Int) ≤ 899; omega⟩
    · exact ⟨(by decide : 2 < 9), x3, x4⟩
    · exact ⟨(by decide : 3 < 9), fd_i32 a1⟩
    · exact ⟨(by decide : 4 < 9), fd_i32 a2⟩
    · exact ⟨(by decide : 5 < 9), fd_i32 a3⟩
    · exact ⟨(by decide : 6 < 9), fd_i32 a4⟩
    · exact ⟨(by decide : 7 < 9), fd_i32 a5⟩
    · exact ⟨(by decide : 8 < 9), by show (0 : Int) ≤ s; omega, by show s ≤ 900; omega⟩
  · have hm : m ∈ ([(3, (8, []), (0, 0, (0, [(8, 1)])), false), (219, (8, []), (0, 0, (0, [(8, 1)])), false), (4, (0, [(1, 1)]), (0, 0, (0, [(2, 1)])), false), (223, (0, [(1, 1)]), (0, 0, (0, [(2, 1)])), false)] : List ae_M) := hm
    simp only [List.mem_cons, List.not_mem_nil, or_false] at hm
    rcases hm with rfl | rfl | rfl | rfl
    · exact aq_eo kM (j := 8) ⟨by decide, by decide, by decide⟩ rfl rfl rfl rfl (by rw [aq_ciA l1 l2 rfl, c1]; show (0 : Int) + (1 * s + 0) = s; omega)
    · exact aq_eo kM (j := 8) ⟨by decide, by decide, by decide⟩ rfl rfl rfl rfl (by rw [aq_ciB l1 l2 rfl, c2]; show (0 : Int) + (1 * s + 0) = s; omega)
    · exact aq_eo kM (j := J) ⟨by decide, by decide, hJ⟩ rfl rfl rfl (by show (0 : Int) + (1 * (J : Int) + 0) = J; omega) (by rw [aq_ciA l1 l2 rfl, ← x2]; show (0 : Int) + (1 * x.toInt + 0) = x.toInt; omega)
    · exact aq_eo kM (j := J) ⟨by decide, by decide, hJ⟩ rfl rfl rfl (by show (0 : Int) + (1 * (J : Int) + 0) = J; omega) (by rw [aq_ciB l1 l2 rfl, e2]; show (0 : Int) + (1 * x.toInt + 0) = x.toInt; omega)
  · exact fd_lv rfl (by decide) rfl rfl rfl rfl rfl
  · exact fd_lv rfl (by decide) rfl rfl rfl rfl rfl
theorem fd_all (hL : L ≤ 3072) {hA hB : List am_E} (kA : ae_hk false L xs hA) (kB : ae_hk false L xs hB) {J : Nat} {a1 a2 a3 a4 a5 : Int32} {d : Nat} (hd : 12 ≤ d) (hJ : J < 900) (c : aq_ci L xs hA 3 8 = aq_ci L xs hB 219 8) (mir : ae_cell L xs hB 223 J = ae_cell L xs hA 4 J) :
    ap_end fd_mo L xs (fd_Q L xs J) ([(d, 144, 0, lv_args 0 [.ref 1, .int a1, .int a2, .int a3, .int a4, .int a5], [])], none) ([(d, 248, 0, lv_args 0 [.ref 219, .int a1, .int a2, .int a3, .int a4, .int a5], [])], none) hA hB := by
  obtain ⟨x, x1, x2, x3, x4⟩ := aq_int kA (p := 3) (j := 8) ⟨by decide, by decide, by decide⟩ rfl
  have x3 : (0 : Int) ≤ x.toInt := x3
  have x4 : x.toInt ≤ 900 := x4
  have cA : aq_ci L xs hA 3 8 = x.toInt := x2.symm
  have cB : aq_ci L xs hB 219 8 = x.toInt := c.symm.trans cA
  by_cases h0 : (J : Int) + 1 ≤ x.toInt
  · exact fd_0 hL kA kB hd hJ x3 x4 h0 cA cB mir
  by_cases h1 : x.toInt + 20 ≤ (J : Int)
  · exact fd_21 hL kA kB hd hJ x3 x4 h1 cA cB mir
  have h2 : ∃ k : Nat, k < 20 ∧ (J : Int) = x.toInt + (k : Int) := ⟨((J : Int) - x.toInt).toNat, by omega, by omega⟩
  obtain ⟨k, hk, e⟩ := h2
  match k, hk, e with
  | 0, _, e => exact fd_1 hL kA kB hd hJ x3 x4 (by omega) cA cB mir
  | 1, _, e => exact fd_2 hL kA kB hd hJ x3 x4 (by omega) cA cB mir
  | 2, _, e => exact fd_3 hL kA kB hd hJ x3 x4 (by omega) cA cB mir
  | 3, _, e => exact fd_4 hL kA kB hd hJ x3 x4 (by omega) cA cB mir
  | 4, _, e => exact fd_5 hL kA kB hd hJ x3 x4 (by omega) cA cB mir
  | 5, _, e => exact fd_6 hL kA kB hd hJ x3 x4 (by omega) cA cB mir
  | 6, _, e => exact fd_7 hL kA kB hd hJ x3 x4 (by omega) cA cB mir
  | 7, _, e => exact fd_8 hL kA kB hd hJ x3 x4 (by omega) cA cB mir
  | 8, _, e => exact fd_9 hL kA kB hd hJ x3 x4 (by omega) cA cB mir
  | 9, _, e => exact fd_10 hL kA kB hd hJ x3 x4 (by omega) cA cB mir
  | 10, _, e => exact fd_11 hL kA kB hd hJ x3 x4 (by omega) cA cB mir
  | 11, _, e => exact fd_12 hL kA kB hd hJ x3 x4 (by omega) cA cB mir
  | 12, _, e => exact fd_13 hL kA kB hd hJ x3 x4 (by omega) cA cB mir
  | 13, _, e => exact fd_14 hL kA kB hd hJ x3 x4 (by omega) cA cB mir
  | 14, _, e => exact fd_15 hL kA kB hd hJ x3 x4 (by omega) cA cB mir
  | 15, _, e => exact fd_16 hL kA kB hd hJ x3 x4 (by omega) cA cB mir
  | 16, _, e => exact fd_17 hL kA kB hd hJ x3 x4 (by omega) cA cB mir
  | 17, _, e => exact fd_18 hL kA kB hd hJ x3 x4 (by omega) cA cB mir
  | 18, _, e => exact fd_19 hL kA kB hd hJ x3 x4 (by omega) cA cB mir
  | 19, _, e => exact fd_20 hL kA kB hd hJ x3 x4 (by omega) cA cB mir
  | k + 20, hk, _ => exact absurd hk (by omega)
end FDA

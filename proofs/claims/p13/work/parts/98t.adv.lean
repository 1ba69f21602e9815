/-! Tape.advance, kind by kind -/
noncomputable def ac_cur (L : Nat) (xs : Nat → Int32) (e : List am_E) (kd st v : Int) : Prop := aq_ci L xs e 3 11 = kd ∧ aq_ci L xs e 3 12 = (if kd = 1 then v else -1) ∧ aq_ci L xs e 3 13 = (if kd = 2 then v else -1) ∧ aq_ci L xs e 3 14 = (if kd = 3 then v else 0) ∧ aq_cj L xs e 3 15 = (if kd = 4 then v else 0) ∧ aq_ci L xs e 3 16 = st
noncomputable def ac_amo : ae_Mo := [(3, 5, 5), (3, 11, 16)]
theorem aq_ci_v {n : Nat} {ρ : Nat → Int} {L : Nat} {xs : Nat → Int32} {h : List am_E} {p : Nat} {i e : ae_X} {j : Nat} (m : ae_eo n ρ L xs h (p, i, (0, 0, e), false)) (hj : ae_ev ρ i = (j : Int)) : aq_ci L xs h p j = ae_ev ρ e := by
  obtain ⟨j', v, h1, h2, x, rfl, h3⟩ := m
  have : j' = j := by have := h1.2; rw [hj] at this; omega
  subst this
  unfold aq_ci
  rw [h2]
  exact h3.2.symm
theorem aq_cj_v {n : Nat} {ρ : Nat → Int} {L : Nat} {xs : Nat → Int32} {h : List am_E} {p : Nat} {i e : ae_X} {j : Nat} (m : ae_eo n ρ L xs h (p, i, (1, 0, e), false)) (hj : ae_ev ρ i = (j : Int)) : aq_cj L xs h p j = ae_ev ρ e := by
  obtain ⟨j', v, h1, h2, x, rfl, h3⟩ := m
  have : j' = j := by have := h1.2; rw [hj] at this; omega
  subst this
  unfold aq_cj
  rw [h2]
  exact h3.2.symm
noncomputable def ac_r4 (L : Nat) (i t s v : Int) : Nat → Int
  | 0 => (L : Int)
  | 1 => i
  | 2 => t
  | 3 => s
  | _ => v
noncomputable def ac_a0_s : ap_Tm := ⟨⟨(5, [(1, 0, 900), (2, 0, 901), (3, (-2147483648), 2147483647), (4, (-9223372036854775808), 9223372036854775807)], [(1, [(1, 1), (2, (-1))])], []), [], [(3, (5, []), (0, 0, (0, [(1, 1)])), false), (3, (4, []), (0, 0, (0, [(2, 1)])), false), (5, (0, [(1, 1)]), (0, 0, (0, [])), false), (6, (0, [(1, 1)]), (0, 0, (0, [(3, 1)])), false), (7, (0, [(1, 1)]), (1, 0, (0, [(4, 1)])), false)], ([(1, 58, 0, [(0, (2, 3, (0, [])))], [])], none), ([], none)⟩, [], (1, [])⟩
noncomputable def ac_a0_t : ap_Tm := ⟨⟨(5, [(1, 0, 900), (2, 0, 901), (3, (-2147483648), 2147483647), (4, (-9223372036854775808), 9223372036854775807)], [(1, [(1, 1), (2, (-1))])], []), [], [(3, (5, []), (0, 0, (1, [(1, 1)])), false), (3, (11, []), (0, 0, (0, [])), false), (3, (12, []), (0, 0, ((-1), [])), false), (3, (13, []), (0, 0, ((-1), [])), false), (3, (14, []), (0, 0, (0, [])), false), (3, (15, []), (1, 0, (0, [])), false), (3, (16, []), (0, 0, (0, [(3, 1)])), false)], ([], none), ([], none)⟩, [], (0, [])⟩
noncomputable def ac_a0_W : ap_W := ((ac_amo, [], []), (fun _ _ => false), (fun _ _ => false), (fun _ _ _ => false), (fun _ => none), [ac_a0_s, ac_a0_t], (fun _ => none), 5)
theorem ac_a0_k : ap_chk ac_a0_W 300 true false ac_a0_s = true := by decide +kernel
theorem ac_a0 {L : Nat} {xs : Nat → Int32} {h : List am_E} (hr : ae_rok = true) (hf : ae_fok = true) (hL : L ≤ 3072) (kh : ae_hk true L xs h) {i t s v : Int} (b1 : 0 ≤ i ∧ i ≤ 900) (b2 : i + 1 ≤ t ∧ t ≤ 901) (b3 : (-9223372036854775808) ≤ v ∧ v ≤ 9223372036854775807) (e1 : aq_ci L xs h 3 5 = i) (e2 : aq_ci L xs h 3 4 = t) (e3 : aq_ci L xs h 5 i.toNat = 0) (e4 : aq_ci L xs h 6 i.toNat = s) (e5 : aq_cj L xs h 7 i.toNat = v) {d : Nat} {lw : am_L} (hd : 1 ≤ d) (l0 : am_lk lw 0 = some (.ref 3)) :
    ∃ n e, am_go L xs n d 58 0 lw [] h = some (none, e) ∧ ap_sm L xs false h e ∧ ae_fr ac_amo L xs h e ∧ ae_hk true L xs e ∧ aq_ci L xs e 3 5 = i + 1 ∧ ac_cur L xs e 0 s v := by
  have hi9 : i.toNat < 901 := by omega
  obtain ⟨sx, s1, s2, s3, s4⟩ := aq_int kh (p := 6) (j := i.toNat) ⟨by decide, by decide, by show i.toNat < 901; exact hi9⟩ rfl
  have key := ac_go1 (r0 := ac_r4 L i t s v) (Q := fun o e => o = none ∧ aq_ci L xs e 3 5 = i + 1 ∧ ac_cur L xs e 0 s v) (W := ac_a0_W) (s := ac_a0_s) (k := ac_a0_s.1.1) (M := ac_a0_s.1.2.2.1) (dd := 1) (y := 58) (pc := 0) (lv := [(0, (2, 3, (0, [])))]) (st := []) (d := d) (lw := lw) (sw := []) hr hf hL rfl rfl List.mem_cons_self (fun w hw => ?_) rfl (by decide) kh hd ⟨fun q hq => ?_, fun f hf' => ?_, fun d hd => absurd hd List.not_mem_nil⟩ ⟨⟨by decide, by omega⟩, rfl⟩ (fun m hm => ?_) (fun q hq => ?_) trivial
  · obtain ⟨n, o, e, g1, g2, g3, g4, g5, g6, g7⟩ := key
    subst g5
    exact ⟨n, e, g1, g2, g3, g4, g6, g7⟩
  · rcases List.mem_cons.mp hw with rfl | hw
    · exact Or.inl ⟨_, _, _, ac_a0_k⟩
    · rw [List.mem_singleton.mp hw]
      refine Or.inr (ac_end1 hf (k := ac_a0_t.1.1) (M := ac_a0_t.1.2.2.1) (ov := none) rfl (by decide) (fun ρ o e a K hM ho he => ?_))
      have a1 : ρ 1 = i := a 1 (by show 1 < 5; decide)
      have a3 : ρ 3 = s := a 3 (by show 3 < 5; decide)
      have a4 : ρ 4 = v := a 4 (by show 4 < 5; decide)
      have c5 : aq_ci L xs e 3 5 = 1 + (1 * ρ 1 + 0) := aq_ci_v (i := (5, [])) (e := (1, [(1, 1)])) (hM _ (by decide)) rfl
      have c11 : aq_ci L xs e 3 11 = 0 := aq_ci_v (i := (11, [])) (e := (0, [])) (hM _ (by decide)) rfl
      have c12 : aq_ci L xs e 3 12 = -1 := aq_ci_v (i := (12, [])) (e := ((-1), [])) (hM _ (by decide)) rfl
      have c13 : aq_ci L xs e 3 13 = -1 := aq_ci_v (i := (13, [])) (e := ((-1), [])) (hM _ (by decide)) rfl
      have c14 : aq_ci L xs e 3 14 = 0 := aq_ci_v (i := (14, [])) (e := (0, [])) (hM _ (by decide)) rfl
      have c15 : aq_cj L xs e 3 15 = 0 := aq_cj_v (i := (15, [])) (e := (0, [])) (hM _ (by decide)) rfl
      have c16 : aq_ci L xs e 3 16 = 0 + (1 * ρ 3 + 0) := aq_ci_v (i := (16, [])) (e := (0, [(3, 1)])) (hM _ (by decide)) rfl
      refine ⟨ho, by omega, c11, ?_, ?_, ?_, ?_, by omega⟩
      · rw [c12]; simp [a4]
      · rw [c13]; simp [a4]
      · rw [c14]; simp [a4]
      · rw [c15]; simp [a4]
  · have hq : q ∈ ([(1, 0, 900), (2, 0, 901), (3, (-2147483648), 2147483647), (4, (-9223372036854775808), 9223372036854775807)] : ae_B) := hq
    simp only [List.mem_cons, List.not_mem_nil, or_false] at hq
    rcases hq with rfl | rfl | rfl | rfl
    · exact ⟨(by decide : 1 < 5), b1⟩
    · exact ⟨(by decide : 2 < 5), by show 0 ≤ t; omega, b2.2⟩
    · exact ⟨(by decide : 3 < 5), by show _ ≤ s; rw [← e4, ← s2]; exact s3, by show s ≤ _; rw [← e4, ← s2]; exact s4⟩
    · exact ⟨(by decide : 4 < 5), b3⟩
  · have hf' : f ∈ ([(1, [(1, 1), (2, (-1))])] : List ae_X) := hf'
    rw [List.mem_singleton.mp hf']
    refine ⟨⟨by decide, by decide, trivial⟩, ?_⟩
    show (1 : Int) + (1 * i + (-1 * t + 0)) ≤ 0
    omega
  · have hm : m ∈ ([(3, (5, []), (0, 0, (0, [(1, 1)])), false), (3, (4, []), (0, 0, (0, [(2, 1)])), false), (5, (0, [(1, 1)]), (0, 0, (0, [])), false), (6, (0, [(1, 1)]), (0, 0, (0, [(3, 1)])), false), (7, (0, [(1, 1)]), (1, 0, (0, [(4, 1)])), false)] : List ae_M) := hm
    have ei : ∀ {x : Int}, (0 : Int) + (1 * x + 0) = x := by intro x; omega
    simp only [List.mem_cons, List.not_mem_nil, or_false] at hm
    rcases hm with rfl | rfl | rfl | rfl | rfl
    · exact aq_eo kh (j := 5) ⟨by decide, by decide, by decide⟩ rfl rfl rfl rfl (by rw [e1]; exact ei)
    · exact aq_eo kh (j := 4) ⟨by decide, by decide, by decide⟩ rfl rfl rfl rfl (by rw [e2]; exact ei)
    · exact aq_eo kh (j := i.toNat) ⟨by decide, by decide, by show i.toNat < 901; exact hi9⟩ rfl rfl rfl (by show (0 : Int) + (1 * i + 0) = (i.toNat : Int); omega) (by rw [e3]; rfl)
    · exact aq_eo kh (j := i.toNat) ⟨by decide, by decide, by show i.toNat < 901; exact hi9⟩ rfl rfl rfl (by show (0 : Int) + (1 * i + 0) = (i.toNat : Int); omega) (by rw [e4]; exact ei)
    · exact aq_eol kh (j := i.toNat) ⟨by decide, by decide, by show i.toNat < 901; exact hi9⟩ rfl rfl rfl (by show (0 : Int) + (1 * i + 0) = (i.toNat : Int); omega) (by rw [e5]; exact ei)
  · rw [List.mem_singleton.mp hq]
    exact ⟨_, l0, rfl⟩
noncomputable def ac_a1_s : ap_Tm := ⟨⟨(5, [(1, 0, 900), (2, 0, 901), (3, (-2147483648), 2147483647), (4, 0, 31)], [(1, [(1, 1), (2, (-1))])], []), [], [(3, (5, []), (0, 0, (0, [(1, 1)])), false), (3, (4, []), (0, 0, (0, [(2, 1)])), false), (5, (0, [(1, 1)]), (0, 0, (1, [])), false), (6, (0, [(1, 1)]), (0, 0, (0, [(3, 1)])), false), (7, (0, [(1, 1)]), (1, 0, (0, [(4, 1)])), false)], ([(1, 58, 0, [(0, (2, 3, (0, [])))], [])], none), ([], none)⟩, [], (1, [])⟩
noncomputable def ac_a1_t : ap_Tm := ⟨⟨(5, [(1, 0, 900), (2, 0, 901), (3, (-2147483648), 2147483647), (4, 0, 31)], [(1, [(1, 1), (2, (-1))])], []), [], [(3, (5, []), (0, 0, (1, [(1, 1)])), false), (3, (11, []), (0, 0, (1, [])), false), (3, (12, []), (0, 0, (0, [(4, 1)])), false), (3, (13, []), (0, 0, ((-1), [])), false), (3, (14, []), (0, 0, (0, [])), false), (3, (15, []), (1, 0, (0, [])), false), (3, (16, []), (0, 0, (0, [(3, 1)])), false)], ([], none), ([], none)⟩, [], (0, [])⟩
noncomputable def ac_a1_W : ap_W := ((ac_amo, [], []), (fun _ _ => false), (fun _ _ => false), (fun _ _ _ => false), (fun _ => none), [ac_a1_s, ac_a1_t], (fun _ => none), 5)
theorem ac_a1_k : ap_chk ac_a1_W 300 true false ac_a1_s = true := by decide +kernel
theorem ac_a1 {L : Nat} {xs : Nat → Int32} {h : List am_E} (hr : ae_rok = true) (hf : ae_fok = true) (hL : L ≤ 3072) (kh : ae_hk true L xs h) {i t s v : Int} (b1 : 0 ≤ i ∧ i ≤ 900) (b2 : i + 1 ≤ t ∧ t ≤ 901) (b3 : 0 ≤ v ∧ v ≤ 31) (e1 : aq_ci L xs h 3 5 = i) (e2 : aq_ci L xs h 3 4 = t) (e3 : aq_ci L xs h 5 i.toNat = 1) (e4 : aq_ci L xs h 6 i.toNat = s) (e5 : aq_cj L xs h 7 i.toNat = v) {d : Nat} {lw : am_L} (hd : 1 ≤ d) (l0 : am_lk lw 0 = some (.ref 3)) :
    ∃ n e, am_go L xs n d 58 0 lw [] h = some (none, e) ∧ ap_sm L xs false h e ∧ ae_fr ac_amo L xs h e ∧ ae_hk true L xs e ∧ aq_ci L xs e 3 5 = i + 1 ∧ ac_cur L xs e 1 s v := by
  have hi9 : i.toNat < 901 := by omega
  obtain ⟨sx, s1, s2, s3, s4⟩ := aq_int kh (p := 6) (j := i.toNat) ⟨by decide, by decide, by show i.toNat < 901; exact hi9⟩ rfl
  have key := ac_go1 (r0 := ac_r4 L i t s v) (Q := fun o e => o = none ∧ aq_ci L xs e 3 5 = i + 1 ∧ ac_cur L xs e 1 s v) (W := ac_a1_W) (s := ac_a1_s) (k := ac_a1_s.1.1) (M := ac_a1_s.1.2.2.1) (dd := 1) (y := 58) (pc := 0) (lv := [(0, (2, 3, (0, [])))]) (st := []) (d := d) (lw := lw) (sw := []) hr hf hL rfl rfl List.mem_cons_self (fun w hw => ?_) rfl (by decide) kh hd ⟨fun q hq => ?_, fun f hf' => ?_, fun d hd => absurd hd List.not_mem_nil⟩ ⟨⟨by decide, by omega⟩, rfl⟩ (fun m hm => ?_) (fun q hq => ?_) trivial
  · obtain ⟨n, o, e, g1, g2, g3, g4, g5, g6, g7⟩ := key
    subst g5
    exact ⟨n, e, g1, g2, g3, g4, g6, g7⟩
  · rcases List.mem_cons.mp hw with rfl | hw
    · exact Or.inl ⟨_, _, _, ac_a1_k⟩
    · rw [List.mem_singleton.mp hw]
      refine Or.inr (ac_end1 hf (k := ac_a1_t.1.1) (M := ac_a1_t.1.2.2.1) (ov := none) rfl (by decide) (fun ρ o e a K hM ho he => ?_))
      have a1 : ρ 1 = i := a 1 (by show 1 < 5; decide)
      have a3 : ρ 3 = s := a 3 (by show 3 < 5; decide)
      have a4 : ρ 4 = v := a 4 (by show 4 < 5; decide)
      have c5 : aq_ci L xs e 3 5 = 1 + (1 * ρ 1 + 0) := aq_ci_v (i := (5, [])) (e := (1, [(1, 1)])) (hM _ (by decide)) rfl
      have c11 : aq_ci L xs e 3 11 = 1 := aq_ci_v (i := (11, [])) (e := (1, [])) (hM _ (by decide)) rfl
      have c12 : aq_ci L xs e 3 12 = 0 + (1 * ρ 4 + 0) := aq_ci_v (i := (12, [])) (e := (0, [(4, 1)])) (hM _ (by decide)) rfl
      have c13 : aq_ci L xs e 3 13 = -1 := aq_ci_v (i := (13, [])) (e := ((-1), [])) (hM _ (by decide)) rfl
      have c14 : aq_ci L xs e 3 14 = 0 := aq_ci_v (i := (14, [])) (e := (0, [])) (hM _ (by decide)) rfl
      have c15 : aq_cj L xs e 3 15 = 0 := aq_cj_v (i := (15, [])) (e := (0, [])) (hM _ (by decide)) rfl
      have c16 : aq_ci L xs e 3 16 = 0 + (1 * ρ 3 + 0) := aq_ci_v (i := (16, [])) (e := (0, [(3, 1)])) (hM _ (by decide)) rfl
      refine ⟨ho, by omega, c11, ?_, ?_, ?_, ?_, by omega⟩
      · rw [c12]; simp [a4]
      · rw [c13]; simp [a4]
      · rw [c14]; simp [a4]
      · rw [c15]; simp [a4]
  · have hq : q ∈ ([(1, 0, 900), (2, 0, 901), (3, (-2147483648), 2147483647), (4, 0, 31)] : ae_B) := hq
    simp only [List.mem_cons, List.not_mem_nil, or_false] at hq
    rcases hq with rfl | rfl | rfl | rfl
    · exact ⟨(by decide : 1 < 5), b1⟩
    · exact ⟨(by decide : 2 < 5), by show 0 ≤ t; omega, b2.2⟩
    · exact ⟨(by decide : 3 < 5), by show _ ≤ s; rw [← e4, ← s2]; exact s3, by show s ≤ _; rw [← e4, ← s2]; exact s4⟩
    · exact ⟨(by decide : 4 < 5), b3⟩
  · have hf' : f ∈ ([(1, [(1, 1), (2, (-1))])] : List ae_X) := hf'
    rw [List.mem_singleton.mp hf']
    refine ⟨⟨by decide, by decide, trivial⟩, ?_⟩
    show (1 : Int) + (1 * i + (-1 * t + 0)) ≤ 0
    omega
  · have hm : m ∈ ([(3, (5, []), (0, 0, (0, [(1, 1)])), false), (3, (4, []), (0, 0, (0, [(2, 1)])), false), (5, (0, [(1, 1)]), (0, 0, (1, [])), false), (6, (0, [(1, 1)]), (0, 0, (0, [(3, 1)])), false), (7, (0, [(1, 1)]), (1, 0, (0, [(4, 1)])), false)] : List ae_M) := hm
    have ei : ∀ {x : Int}, (0 : Int) + (1 * x + 0) = x := by intro x; omega
    simp only [List.mem_cons, List.not_mem_nil, or_false] at hm
    rcases hm with rfl | rfl | rfl | rfl | rfl
    · exact aq_eo kh (j := 5) ⟨by decide, by decide, by decide⟩ rfl rfl rfl rfl (by rw [e1]; exact ei)
    · exact aq_eo kh (j := 4) ⟨by decide, by decide, by decide⟩ rfl rfl rfl rfl (by rw [e2]; exact ei)
    · exact aq_eo kh (j := i.toNat) ⟨by decide, by decide, by show i.toNat < 901; exact hi9⟩ rfl rfl rfl (by show (0 : Int) + (1 * i + 0) = (i.toNat : Int); omega) (by rw [e3]; rfl)
    · exact aq_eo kh (j := i.toNat) ⟨by decide, by decide, by show i.toNat < 901; exact hi9⟩ rfl rfl rfl (by show (0 : Int) + (1 * i + 0) = (i.toNat : Int); omega) (by rw [e4]; exact ei)
    · exact aq_eol kh (j := i.toNat) ⟨by decide, by decide, by show i.toNat < 901; exact hi9⟩ rfl rfl rfl (by show (0 : Int) + (1 * i + 0) = (i.toNat : Int); omega) (by rw [e5]; exact ei)
  · rw [List.mem_singleton.mp hq]
    exact ⟨_, l0, rfl⟩
noncomputable def ac_a2_s : ap_Tm := ⟨⟨(5, [(1, 0, 900), (2, 0, 901), (3, (-2147483648), 2147483647), (4, 0, 9999)], [(1, [(1, 1), (2, (-1))])], []), [], [(3, (5, []), (0, 0, (0, [(1, 1)])), false), (3, (4, []), (0, 0, (0, [(2, 1)])), false), (5, (0, [(1, 1)]), (0, 0, (2, [])), false), (6, (0, [(1, 1)]), (0, 0, (0, [(3, 1)])), false), (7, (0, [(1, 1)]), (1, 0, (0, [(4, 1)])), false)], ([(1, 58, 0, [(0, (2, 3, (0, [])))], [])], none), ([], none)⟩, [], (1, [])⟩
noncomputable def ac_a2_t : ap_Tm := ⟨⟨(5, [(1, 0, 900), (2, 0, 901), (3, (-2147483648), 2147483647), (4, 0, 9999)], [(1, [(1, 1), (2, (-1))])], []), [], [(3, (5, []), (0, 0, (1, [(1, 1)])), false), (3, (11, []), (0, 0, (2, [])), false), (3, (12, []), (0, 0, ((-1), [])), false), (3, (13, []), (0, 0, (0, [(4, 1)])), false), (3, (14, []), (0, 0, (0, [])), false), (3, (15, []), (1, 0, (0, [])), false), (3, (16, []), (0, 0, (0, [(3, 1)])), false)], ([], none), ([], none)⟩, [], (0, [])⟩
noncomputable def ac_a2_W : ap_W := ((ac_amo, [], []), (fun _ _ => false), (fun _ _ => false), (fun _ _ _ => false), (fun _ => none), [ac_a2_s, ac_a2_t], (fun _ => none), 5)
theorem ac_a2_k : ap_chk ac_a2_W 300 true false ac_a2_s = true := by decide +kernel
theorem ac_a2 {L : Nat} {xs : Nat → Int32} {h : List am_E} (hr : ae_rok = true) (hf : ae_fok = true) (hL : L ≤ 3072) (kh : ae_hk true L xs h) {i t s v : Int} (b1 : 0 ≤ i ∧ i ≤ 900) (b2 : i + 1 ≤ t ∧ t ≤ 901) (b3 : 0 ≤ v ∧ v ≤ 9999) (e1 : aq_ci L xs h 3 5 = i) (e2 : aq_ci L xs h 3 4 = t) (e3 : aq_ci L xs h 5 i.toNat = 2) (e4 : aq_ci L xs h 6 i.toNat = s) (e5 : aq_cj L xs h 7 i.toNat = v) {d : Nat} {lw : am_L} (hd : 1 ≤ d) (l0 : am_lk lw 0 = some (.ref 3)) :
    ∃ n e, am_go L xs n d 58 0 lw [] h = some (none, e) ∧ ap_sm L xs false h e ∧ ae_fr ac_amo L xs h e ∧ ae_hk true L xs e ∧ aq_ci L xs e 3 5 = i + 1 ∧ ac_cur L xs e 2 s v := by
  have hi9 : i.toNat < 901 := by omega
  obtain ⟨sx, s1, s2, s3, s4⟩ := aq_int kh (p := 6) (j := i.toNat) ⟨by decide, by decide, by show i.toNat < 901; exact hi9⟩ rfl
  have key := ac_go1 (r0 := ac_r4 L i t s v) (Q := fun o e => o = none ∧ aq_ci L xs e 3 5 = i + 1 ∧ ac_cur L xs e 2 s v) (W := ac_a2_W) (s := ac_a2_s) (k := ac_a2_s.1.1) (M := ac_a2_s.1.2.2.1) (dd := 1) (y := 58) (pc := 0) (lv := [(0, (2, 3, (0, [])))]) (st := []) (d := d) (lw := lw) (sw := []) hr hf hL rfl rfl List.mem_cons_self (fun w hw => ?_) rfl (by decide) kh hd ⟨fun q hq => ?_, fun f hf' => ?_, fun d hd => absurd hd List.not_mem_nil⟩ ⟨⟨by decide, by omega⟩, rfl⟩ (fun m hm => ?_) (fun q hq => ?_) trivial
  · obtain ⟨n, o, e, g1, g2, g3, g4, g5, g6, g7⟩ := key
    subst g5
    exact ⟨n, e, g1, g2, g3, g4, g6, g7⟩
  · rcases List.mem_cons.mp hw with rfl | hw
    · exact Or.inl ⟨_, _, _, ac_a2_k⟩
    · rw [List.mem_singleton.mp hw]
      refine Or.inr (ac_end1 hf (k := ac_a2_t.1.1) (M := ac_a2_t.1.2.2.1) (ov := none) rfl (by decide) (fun ρ o e a K hM ho he => ?_))
      have a1 : ρ 1 = i := a 1 (by show 1 < 5; decide)
      have a3 : ρ 3 = s := a 3 (by show 3 < 5; decide)
      have a4 : ρ 4 = v := a 4 (by show 4 < 5; decide)
      have c5 : aq_ci L xs e 3 5 = 1 + (1 * ρ 1 + 0) := aq_ci_v (i := (5, [])) (e := (1, [(1, 1)])) (hM _ (by decide)) rfl
      have c11 : aq_ci L xs e 3 11 = 2 := aq_ci_v (i := (11, [])) (e := (2, [])) (hM _ (by decide)) rfl
      have c12 : aq_ci L xs e 3 12 = -1 := aq_ci_v (i := (12, [])) (e := ((-1), [])) (hM _ (by decide)) rfl
      have c13 : aq_ci L xs e 3 13 = 0 + (1 * ρ 4 + 0) := aq_ci_v (i := (13, [])) (e := (0, [(4, 1)])) (hM _ (by decide)) rfl
      have c14 : aq_ci L xs e 3 14 = 0 := aq_ci_v (i := (14, [])) (e := (0, [])) (hM _ (by decide)) rfl
      have c15 : aq_cj L xs e 3 15 = 0 := aq_cj_v (i := (15, [])) (e := (0, [])) (hM _ (by decide)) rfl
      have c16 : aq_ci L xs e 3 16 = 0 + (1 * ρ 3 + 0) := aq_ci_v (i := (16, [])) (e := (0, [(3, 1)])) (hM _ (by decide)) rfl
      refine ⟨ho, by omega, c11, ?_, ?_, ?_, ?_, by omega⟩
      · rw [c12]; simp [a4]
      · rw [c13]; simp [a4]
      · rw [c14]; simp [a4]
      · rw [c15]; simp [a4]
  · have hq : q ∈ ([(1, 0, 900), (2, 0, 901), (3, (-2147483648), 2147483647), (4, 0, 9999)] : ae_B) := hq
    simp only [List.mem_cons, List.not_mem_nil, or_false] at hq
    rcases hq with rfl | rfl | rfl | rfl
    · exact ⟨(by decide : 1 < 5), b1⟩
    · exact ⟨(by decide : 2 < 5), by show 0 ≤ t; omega, b2.2⟩
    · exact ⟨(by decide : 3 < 5), by show _ ≤ s; rw [← e4, ← s2]; exact s3, by show s ≤ _; rw [← e4, ← s2]; exact s4⟩
    · exact ⟨(by decide : 4 < 5), b3⟩
  · have hf' : f ∈ ([(1, [(1, 1), (2, (-1))])] : List ae_X) := hf'
    rw [List.mem_singleton.mp hf']
    refine ⟨⟨by decide, by decide, trivial⟩, ?_⟩
    show (1 : Int) + (1 * i + (-1 * t + 0)) ≤ 0
    omega
  · have hm : m ∈ ([(3, (5, []), (0, 0, (0, [(1, 1)])), false), (3, (4, []), (0, 0, (0, [(2, 1)])), false), (5, (0, [(1, 1)]), (0, 0, (2, [])), false), (6, (0, [(1, 1)]), (0, 0, (0, [(3, 1)])), false), (7, (0, [(1, 1)]), (1, 0, (0, [(4, 1)])), false)] : List ae_M) := hm
    have ei : ∀ {x : Int}, (0 : Int) + (1 * x + 0) = x := by intro x; omega
    simp only [List.mem_cons, List.not_mem_nil, or_false] at hm
    rcases hm with rfl | rfl | rfl | rfl | rfl
    · exact aq_eo kh (j := 5) ⟨by decide, by decide, by decide⟩ rfl rfl rfl rfl (by rw [e1]; exact ei)
    · exact aq_eo kh (j := 4) ⟨by decide, by decide, by decide⟩ rfl rfl rfl rfl (by rw [e2]; exact ei)
    · exact aq_eo kh (j := i.toNat) ⟨by decide, by decide, by show i.toNat < 901; exact hi9⟩ rfl rfl rfl (by show (0 : Int) + (1 * i + 0) = (i.toNat : Int); omega) (by rw [e3]; rfl)
    · exact aq_eo kh (j := i.toNat) ⟨by decide, by decide, by show i.toNat < 901; exact hi9⟩ rfl rfl rfl (by show (0 : Int) + (1 * i + 0) = (i.toNat : Int); omega) (by rw [e4]; exact ei)
    · exact aq_eol kh (j := i.toNat) ⟨by decide, by decide, by show i.toNat < 901; exact hi9⟩ rfl rfl rfl (by show (0 : Int) + (1 * i + 0) = (i.toNat : Int); omega) (by rw [e5]; exact ei)
  · rw [List.mem_singleton.mp hq]
    exact ⟨_, l0, rfl⟩
noncomputable def ac_a3_s : ap_Tm := ⟨⟨(5, [(1, 0, 900), (2, 0, 901), (3, (-2147483648), 2147483647), (4, 59, 62)], [(1, [(1, 1), (2, (-1))])], []), [], [(3, (5, []), (0, 0, (0, [(1, 1)])), false), (3, (4, []), (0, 0, (0, [(2, 1)])), false), (5, (0, [(1, 1)]), (0, 0, (3, [])), false), (6, (0, [(1, 1)]), (0, 0, (0, [(3, 1)])), false), (7, (0, [(1, 1)]), (1, 0, (0, [(4, 1)])), false)], ([(1, 58, 0, [(0, (2, 3, (0, [])))], [])], none), ([], none)⟩, [], (1, [])⟩
noncomputable def ac_a3_t : ap_Tm := ⟨⟨(5, [(1, 0, 900), (2, 0, 901), (3, (-2147483648), 2147483647), (4, 59, 62)], [(1, [(1, 1), (2, (-1))])], []), [], [(3, (5, []), (0, 0, (1, [(1, 1)])), false), (3, (11, []), (0, 0, (3, [])), false), (3, (12, []), (0, 0, ((-1), [])), false), (3, (13, []), (0, 0, ((-1), [])), false), (3, (14, []), (0, 0, (0, [(4, 1)])), false), (3, (15, []), (1, 0, (0, [])), false), (3, (16, []), (0, 0, (0, [(3, 1)])), false)], ([], none), ([], none)⟩, [], (0, [])⟩
noncomputable def ac_a3_W : ap_W := ((ac_amo, [], []), (fun _ _ => false), (fun _ _ => false), (fun _ _ _ => false), (fun _ => none), [ac_a3_s, ac_a3_t], (fun _ => none), 5)
theorem ac_a3_k : ap_chk ac_a3_W 300 true false ac_a3_s = true := by decide +kernel
theorem ac_a3 {L : Nat} {xs : Nat → Int32} {h : List am_E} (hr : ae_rok = true) (hf : ae_fok = true) (hL : L ≤ 3072) (kh : ae_hk true L xs h) {i t s v : Int} (b1 : 0 ≤ i ∧ i ≤ 900) (b2 : i + 1 ≤ t ∧ t ≤ 901) (b3 : 59 ≤ v ∧ v ≤ 62) (e1 : aq_ci L xs h 3 5 = i) (e2 : aq_ci L xs h 3 4 = t) (e3 : aq_ci L xs h 5 i.toNat = 3) (e4 : aq_ci L xs h 6 i.toNat = s) (e5 : aq_cj L xs h 7 i.toNat = v) {d : Nat} {lw : am_L} (hd : 1 ≤ d) (l0 : am_lk lw 0 = some (.ref 3)) :
    ∃ n e, am_go L xs n d 58 0 lw [] h = some (none, e) ∧ ap_sm L xs false h e ∧ ae_fr ac_amo L xs h e ∧ ae_hk true L xs e ∧ aq_ci L xs e 3 5 = i + 1 ∧ ac_cur L xs e 3 s v := by
  have hi9 : i.toNat < 901 := by omega
  obtain ⟨sx, s1, s2, s3, s4⟩ := aq_int kh (p := 6) (j := i.toNat) ⟨by decide, by decide, by show i.toNat < 901; exact hi9⟩ rfl
  have key := ac_go1 (r0 := ac_r4 L i t s v) (Q := fun o e => o = none ∧ aq_ci L xs e 3 5 = i + 1 ∧ ac_cur L xs e 3 s v) (W := ac_a3_W) (s := ac_a3_s) (k := ac_a3_s.1.1) (M := ac_a3_s.1.2.2.1) (dd := 1) (y := 58) (pc := 0) (lv := [(0, (2, 3, (0, [])))]) (st := []) (d := d) (lw := lw) (sw := []) hr hf hL rfl rfl List.mem_cons_self (fun w hw => ?_) rfl (by decide) kh hd ⟨fun q hq => ?_, fun f hf' => ?_, fun d hd => absurd hd List.not_mem_nil⟩ ⟨⟨by decide, by omega⟩, rfl⟩ (fun m hm => ?_) (fun q hq => ?_) trivial
  · obtain ⟨n, o, e, g1, g2, g3, g4, g5, g6, g7⟩ := key
    subst g5
    exact ⟨n, e, g1, g2, g3, g4, g6, g7⟩
  · rcases List.mem_cons.mp hw with rfl | hw
    · exact Or.inl ⟨_, _, _, ac_a3_k⟩
    · rw [List.mem_singleton.mp hw]
      refine Or.inr (ac_end1 hf (k := ac_a3_t.1.1) (M := ac_a3_t.1.2.2.1) (ov := none) rfl (by decide) (fun ρ o e a K hM ho he => ?_))
      have a1 : ρ 1 = i := a 1 (by show 1 < 5; decide)
      have a3 : ρ 3 = s := a 3 (by show 3 < 5; decide)
      have a4 : ρ 4 = v := a 4 (by show 4 < 5; decide)
      have c5 : aq_ci L xs e 3 5 = 1 + (1 * ρ 1 + 0) := aq_ci_v (i := (5, [])) (e := (1, [(1, 1)])) (hM _ (by decide)) rfl
      have c11 : aq_ci L xs e 3 11 = 3 := aq_ci_v (i := (11, [])) (e := (3, [])) (hM _ (by decide)) rfl
      have c12 : aq_ci L xs e 3 12 = -1 := aq_ci_v (i := (12, [])) (e := ((-1), [])) (hM _ (by decide)) rfl
      have c13 : aq_ci L xs e 3 13 = -1 := aq_ci_v (i := (13, [])) (e := ((-1), [])) (hM _ (by decide)) rfl
      have c14 : aq_ci L xs e 3 14 = 0 + (1 * ρ 4 + 0) := aq_ci_v (i := (14, [])) (e := (0, [(4, 1)])) (hM _ (by decide)) rfl
      have c15 : aq_cj L xs e 3 15 = 0 := aq_cj_v (i := (15, [])) (e := (0, [])) (hM _ (by decide)) rfl
      have c16 : aq_ci L xs e 3 16 = 0 + (1 * ρ 3 + 0) := aq_ci_v (i := (16, [])) (e := (0, [(3, 1)])) (hM _ (by decide)) rfl
      refine ⟨ho, by omega, c11, ?_, ?_, ?_, ?_, by omega⟩
      · rw [c12]; simp [a4]
      · rw [c13]; simp [a4]
      · rw [c14]; simp [a4]
      · rw [c15]; simp [a4]
  · have hq : q ∈ ([(1, 0, 900), (2, 0, 901), (3, (-2147483648), 2147483647), (4, 59, 62)] : ae_B) := hq
    simp only [List.mem_cons, List.not_mem_nil, or_false] at hq
    rcases hq with rfl | rfl | rfl | rfl
    · exact ⟨(by decide : 1 < 5), b1⟩
    · exact ⟨(by decide : 2 < 5), by show 0 ≤ t; omega, b2.2⟩
    · exact ⟨(by decide : 3 < 5), by show _ ≤ s; rw [← e4, ← s2]; exact s3, by show s ≤ _; rw [← e4, ← s2]; exact s4⟩
    · exact ⟨(by decide : 4 < 5), b3⟩
  · have hf' : f ∈ ([(1, [(1, 1), (2, (-1))])] : List ae_X) := hf'
    rw [List.mem_singleton.mp hf']
    refine ⟨⟨by decide, by decide, trivial⟩, ?_⟩
    show (1 : Int) + (1 * i + (-1 * t + 0)) ≤ 0
    omega
  · have hm : m ∈ ([(3, (5, []), (0, 0, (0, [(1, 1)])), false), (3, (4, []), (0, 0, (0, [(2, 1)])), false), (5, (0, [(1, 1)]), (0, 0, (3, [])), false), (6, (0, [(1, 1)]), (0, 0, (0, [(3, 1)])), false), (7, (0, [(1, 1)]), (1, 0, (0, [(4, 1)])), false)] : List ae_M) := hm
    have ei : ∀ {x : Int}, (0 : Int) + (1 * x + 0) = x := by intro x; omega
    simp only [List.mem_cons, List.not_mem_nil, or_false] at hm
    rcases hm with rfl | rfl | rfl | rfl | rfl
    · exact aq_eo kh (j := 5) ⟨by decide, by decide, by decide⟩ rfl rfl rfl rfl (by rw [e1]; exact ei)
    · exact aq_eo kh (j := 4) ⟨by decide, by decide, by decide⟩ rfl rfl rfl rfl (by rw [e2]; exact ei)
    · exact aq_eo kh (j := i.toNat) ⟨by decide, by decide, by show i.toNat < 901; exact hi9⟩ rfl rfl rfl (by show (0 : Int) + (1 * i + 0) = (i.toNat : Int); omega) (by rw [e3]; rfl)
    · exact aq_eo kh (j := i.toNat) ⟨by decide, by decide, by show i.toNat < 901; exact hi9⟩ rfl rfl rfl (by show (0 : Int) + (1 * i + 0) = (i.toNat : Int); omega) (by rw [e4]; exact ei)
    · exact aq_eol kh (j := i.toNat) ⟨by decide, by decide, by show i.toNat < 901; exact hi9⟩ rfl rfl rfl (by show (0 : Int) + (1 * i + 0) = (i.toNat : Int); omega) (by rw [e5]; exact ei)
  · rw [List.mem_singleton.mp hq]
    exact ⟨_, l0, rfl⟩
noncomputable def ac_a4_s : ap_Tm := ⟨⟨(5, [(1, 0, 900), (2, 0, 901), (3, (-2147483648), 2147483647), (4, 1, 1099511627776)], [(1, [(1, 1), (2, (-1))])], []), [], [(3, (5, []), (0, 0, (0, [(1, 1)])), false), (3, (4, []), (0, 0, (0, [(2, 1)])), false), (5, (0, [(1, 1)]), (0, 0, (4, [])), false), (6, (0, [(1, 1)]), (0, 0, (0, [(3, 1)])), false), (7, (0, [(1, 1)]), (1, 0, (0, [(4, 1)])), false)], ([(1, 58, 0, [(0, (2, 3, (0, [])))], [])], none), ([], none)⟩, [], (1, [])⟩
noncomputable def ac_a4_t : ap_Tm := ⟨⟨(5, [(1, 0, 900), (2, 0, 901), (3, (-2147483648), 2147483647), (4, 1, 1099511627776)], [(1, [(1, 1), (2, (-1))])], []), [], [(3, (5, []), (0, 0, (1, [(1, 1)])), false), (3, (11, []), (0, 0, (4, [])), false), (3, (12, []), (0, 0, ((-1), [])), false), (3, (13, []), (0, 0, ((-1), [])), false), (3, (14, []), (0, 0, (0, [])), false), (3, (15, []), (1, 0, (0, [(4, 1)])), false), (3, (16, []), (0, 0, (0, [(3, 1)])), false)], ([], none), ([], none)⟩, [], (0, [])⟩
noncomputable def ac_a4_W : ap_W := ((ac_amo, [], []), (fun _ _ => false), (fun _ _ => false), (fun _ _ _ => false), (fun _ => none), [ac_a4_s, ac_a4_t], (fun _ => none), 5)
theorem ac_a4_k : ap_chk ac_a4_W 300 true false ac_a4_s = true := by decide +kernel
theorem ac_a4 {L : Nat} {xs : Nat → Int32} {h : List am_E} (hr : ae_rok = true) (hf : ae_fok = true) (hL : L ≤ 3072) (kh : ae_hk true L xs h) {i t s v : Int} (b1 : 0 ≤ i ∧ i ≤ 900) (b2 : i + 1 ≤ t ∧ t ≤ 901) (b3 : 1 ≤ v ∧ v ≤ 1099511627776) (e1 : aq_ci L xs h 3 5 = i) (e2 : aq_ci L xs h 3 4 = t) (e3 : aq_ci L xs h 5 i.toNat = 4) (e4 : aq_ci L xs h 6 i.toNat = s) (e5 : aq_cj L xs h 7 i.toNat = v) {d : Nat} {lw : am_L} (hd : 1 ≤ d) (l0 : am_lk lw 0 = some (.ref 3)) :
    ∃ n e, am_go L xs n d 58 0 lw [] h = some (none, e) ∧ ap_sm L xs false h e ∧ ae_fr ac_amo L xs h e ∧ ae_hk true L xs e ∧ aq_ci L xs e 3 5 = i + 1 ∧ ac_cur L xs e 4 s v := by
  have hi9 : i.toNat < 901 := by omega
  obtain ⟨sx, s1, s2, s3, s4⟩ := aq_int kh (p := 6) (j := i.toNat) ⟨by decide, by decide, by show i.toNat < 901; exact hi9⟩ rfl
  have key := ac_go1 (r0 := ac_r4 L i t s v) (Q := fun o e => o = none ∧ aq_ci L xs e 3 5 = i + 1 ∧ ac_cur L xs e 4 s v) (W := ac_a4_W) (s := ac_a4_s) (k := ac_a4_s.1.1) (M := ac_a4_s.1.2.2.1) (dd := 1) (y := 58) (pc := 0) (lv := [(0, (2, 3, (0, [])))]) (st := []) (d := d) (lw := lw) (sw := []) hr hf hL rfl rfl List.mem_cons_self (fun w hw => ?_) rfl (by decide) kh hd ⟨fun q hq => ?_, fun f hf' => ?_, fun d hd => absurd hd List.not_mem_nil⟩ ⟨⟨by decide, by omega⟩, rfl⟩ (fun m hm => ?_) (fun q hq => ?_) trivial
  · obtain ⟨n, o, e, g1, g2, g3, g4, g5, g6, g7⟩ := key
    subst g5
    exact ⟨n, e, g1, g2, g3, g4, g6, g7⟩
  · rcases List.mem_cons.mp hw with rfl | hw
    · exact Or.inl ⟨_, _, _, ac_a4_k⟩
    · rw [List.mem_singleton.mp hw]
      refine Or.inr (ac_end1 hf (k := ac_a4_t.1.1) (M := ac_a4_t.1.2.2.1) (ov := none) rfl (by decide) (fun ρ o e a K hM ho he => ?_))
      have a1 : ρ 1 = i := a 1 (by show 1 < 5; decide)
      have a3 : ρ 3 = s := a 3 (by show 3 < 5; decide)
      have a4 : ρ 4 = v := a 4 (by show 4 < 5; decide)
      have c5 : aq_ci L xs e 3 5 = 1 + (1 * ρ 1 + 0) := aq_ci_v (i := (5, [])) (e := (1, [(1, 1)])) (hM _ (by decide)) rfl
      have c11 : aq_ci L xs e 3 11 = 4 := aq_ci_v (i := (11, [])) (e := (4, [])) (hM _ (by decide)) rfl
      have c12 : aq_ci L xs e 3 12 = -1 := aq_ci_v (i := (12, [])) (e := ((-1), [])) (hM _ (by decide)) rfl
      have c13 : aq_ci L xs e 3 13 = -1 := aq_ci_v (i := (13, [])) (e := ((-1), [])) (hM _ (by decide)) rfl
      have c14 : aq_ci L xs e 3 14 = 0 := aq_ci_v (i := (14, [])) (e := (0, [])) (hM _ (by decide)) rfl
      have c15 : aq_cj L xs e 3 15 = 0 + (1 * ρ 4 + 0) := aq_cj_v (i := (15, [])) (e := (0, [(4, 1)])) (hM _ (by decide)) rfl
      have c16 : aq_ci L xs e 3 16 = 0 + (1 * ρ 3 + 0) := aq_ci_v (i := (16, [])) (e := (0, [(3, 1)])) (hM _ (by decide)) rfl
      refine ⟨ho, by omega, c11, ?_, ?_, ?_, ?_, by omega⟩
      · rw [c12]; simp [a4]
      · rw [c13]; simp [a4]
      · rw [c14]; simp [a4]
      · rw [c15]; simp [a4]
  · have hq : q ∈ ([(1, 0, 900), (2, 0, 901), (3, (-2147483648), 2147483647), (4, 1, 1099511627776)] : ae_B) := hq
    simp only [List.mem_cons, List.not_mem_nil, or_false] at hq
    rcases hq with rfl | rfl | rfl | rfl
    · exact ⟨(by decide : 1 < 5), b1⟩
    · exact ⟨(by decide : 2 < 5), by show 0 ≤ t; omega, b2.2⟩
    · exact ⟨(by decide : 3 < 5), by show _ ≤ s; rw [← e4, ← s2]; exact s3, by show s ≤ _; rw [← e4, ← s2]; exact s4⟩
    · exact ⟨(by decide : 4 < 5), b3⟩
  · have hf' : f ∈ ([(1, [(1, 1), (2, (-1))])] : List ae_X) := hf'
    rw [List.mem_singleton.mp hf']
    refine ⟨⟨by decide, by decide, trivial⟩, ?_⟩
    show (1 : Int) + (1 * i + (-1 * t + 0)) ≤ 0
    omega
  · have hm : m ∈ ([(3, (5, []), (0, 0, (0, [(1, 1)])), false), (3, (4, []), (0, 0, (0, [(2, 1)])), false), (5, (0, [(1, 1)]), (0, 0, (4, [])), false), (6, (0, [(1, 1)]), (0, 0, (0, [(3, 1)])), false), (7, (0, [(1, 1)]), (1, 0, (0, [(4, 1)])), false)] : List ae_M) := hm
    have ei : ∀ {x : Int}, (0 : Int) + (1 * x + 0) = x := by intro x; omega
    simp only [List.mem_cons, List.not_mem_nil, or_false] at hm
    rcases hm with rfl | rfl | rfl | rfl | rfl
    · exact aq_eo kh (j := 5) ⟨by decide, by decide, by decide⟩ rfl rfl rfl rfl (by rw [e1]; exact ei)
    · exact aq_eo kh (j := 4) ⟨by decide, by decide, by decide⟩ rfl rfl rfl rfl (by rw [e2]; exact ei)
    · exact aq_eo kh (j := i.toNat) ⟨by decide, by decide, by show i.toNat < 901; exact hi9⟩ rfl rfl rfl (by show (0 : Int) + (1 * i + 0) = (i.toNat : Int); omega) (by rw [e3]; rfl)
    · exact aq_eo kh (j := i.toNat) ⟨by decide, by decide, by show i.toNat < 901; exact hi9⟩ rfl rfl rfl (by show (0 : Int) + (1 * i + 0) = (i.toNat : Int); omega) (by rw [e4]; exact ei)
    · exact aq_eol kh (j := i.toNat) ⟨by decide, by decide, by show i.toNat < 901; exact hi9⟩ rfl rfl rfl (by show (0 : Int) + (1 * i + 0) = (i.toNat : Int); omega) (by rw [e5]; exact ei)
  · rw [List.mem_singleton.mp hq]
    exact ⟨_, l0, rfl⟩
noncomputable def ac_a5_s : ap_Tm := ⟨⟨(5, [(1, 0, 900), (2, 0, 901), (3, (-2147483648), 2147483647), (4, (-9223372036854775808), 9223372036854775807)], [(1, [(1, 1), (2, (-1))])], []), [], [(3, (5, []), (0, 0, (0, [(1, 1)])), false), (3, (4, []), (0, 0, (0, [(2, 1)])), false), (5, (0, [(1, 1)]), (0, 0, (5, [])), false), (6, (0, [(1, 1)]), (0, 0, (0, [(3, 1)])), false), (7, (0, [(1, 1)]), (1, 0, (0, [(4, 1)])), false)], ([(1, 58, 0, [(0, (2, 3, (0, [])))], [])], none), ([], none)⟩, [], (1, [])⟩
noncomputable def ac_a5_t : ap_Tm := ⟨⟨(5, [(1, 0, 900), (2, 0, 901), (3, (-2147483648), 2147483647), (4, (-9223372036854775808), 9223372036854775807)], [(1, [(1, 1), (2, (-1))])], []), [], [(3, (5, []), (0, 0, (1, [(1, 1)])), false), (3, (11, []), (0, 0, (5, [])), false), (3, (12, []), (0, 0, ((-1), [])), false), (3, (13, []), (0, 0, ((-1), [])), false), (3, (14, []), (0, 0, (0, [])), false), (3, (15, []), (1, 0, (0, [])), false), (3, (16, []), (0, 0, (0, [(3, 1)])), false)], ([], none), ([], none)⟩, [], (0, [])⟩
noncomputable def ac_a5_W : ap_W := ((ac_amo, [], []), (fun _ _ => false), (fun _ _ => false), (fun _ _ _ => false), (fun _ => none), [ac_a5_s, ac_a5_t], (fun _ => none), 5)
theorem ac_a5_k : ap_chk ac_a5_W 300 true false ac_a5_s = true := by decide +kernel
theorem ac_a5 {L : Nat} {xs : Nat → Int32} {h : List am_E} (hr : ae_rok = true) (hf : ae_fok = true) (hL : L ≤ 3072) (kh : ae_hk true L xs h) {i t s v : Int} (b1 : 0 ≤ i ∧ i ≤ 900) (b2 : i + 1 ≤ t ∧ t ≤ 901) (b3 : (-9223372036854775808) ≤ v ∧ v ≤ 9223372036854775807) (e1 : aq_ci L xs h 3 5 = i) (e2 : aq_ci L xs h 3 4 = t) (e3 : aq_ci L xs h 5 i.toNat = 5) (e4 : aq_ci L xs h 6 i.toNat = s) (e5 : aq_cj L xs h 7 i.toNat = v) {d : Nat} {lw : am_L} (hd : 1 ≤ d) (l0 : am_lk lw 0 = some (.ref 3)) :
    ∃ n e, am_go L xs n d 58 0 lw [] h = some (none, e) ∧ ap_sm L xs false h e ∧ ae_fr ac_amo L xs h e ∧ ae_hk true L xs e ∧ aq_ci L xs e 3 5 = i + 1 ∧ ac_cur L xs e 5 s v := by
  have hi9 : i.toNat < 901 := by omega
  obtain ⟨sx, s1, s2, s3, s4⟩ := aq_int kh (p := 6) (j := i.toNat) ⟨by decide, by decide, by show i.toNat < 901; exact hi9⟩ rfl
  have key := ac_go1 (r0 := ac_r4 L i t s v) (Q := fun o e => o = none ∧ aq_ci L xs e 3 5 = i + 1 ∧ ac_cur L xs e 5 s v) (W := ac_a5_W) (s := ac_a5_s) (k := ac_a5_s.1.1) (M := ac_a5_s.1.2.2.1) (dd := 1) (y := 58) (pc := 0) (lv := [(0, (2, 3, (0, [])))]) (st := []) (d := d) (lw := lw) (sw := []) hr hf hL rfl rfl List.mem_cons_self (fun w hw => ?_) rfl (by decide) kh hd ⟨fun q hq => ?_, fun f hf' => ?_, fun d hd => absurd hd List.not_mem_nil⟩ ⟨⟨by decide, by omega⟩, rfl⟩ (fun m hm => ?_) (fun q hq => ?_) trivial
  · obtain ⟨n, o, e, g1, g2, g3, g4, g5, g6, g7⟩ := key
    subst g5
    exact ⟨n, e, g1, g2, g3, g4, g6, g7⟩
  · rcases List.mem_cons.mp hw with rfl | hw
    · exact Or.inl ⟨_, _, _, ac_a5_k⟩
    · rw [List.mem_singleton.mp hw]
      refine Or.inr (ac_end1 hf (k := ac_a5_t.1.1) (M := ac_a5_t.1.2.2.1) (ov := none) rfl (by decide) (fun ρ o e a K hM ho he => ?_))
      have a1 : ρ 1 = i := a 1 (by show 1 < 5; decide)
      have a3 : ρ 3 = s := a 3 (by show 3 < 5; decide)
      have a4 : ρ 4 = v := a 4 (by show 4 < 5; decide)
      have c5 : aq_ci L xs e 3 5 = 1 + (1 * ρ 1 + 0) := aq_ci_v (i := (5, [])) (e := (1, [(1, 1)])) (hM _ (by decide)) rfl
      have c11 : aq_ci L xs e 3 11 = 5 := aq_ci_v (i := (11, [])) (e := (5, [])) (hM _ (by decide)) rfl
      have c12 : aq_ci L xs e 3 12 = -1 := aq_ci_v (i := (12, [])) (e := ((-1), [])) (hM _ (by decide)) rfl
      have c13 : aq_ci L xs e 3 13 = -1 := aq_ci_v (i := (13, [])) (e := ((-1), [])) (hM _ (by decide)) rfl
      have c14 : aq_ci L xs e 3 14 = 0 := aq_ci_v (i := (14, [])) (e := (0, [])) (hM _ (by decide)) rfl
      have c15 : aq_cj L xs e 3 15 = 0 := aq_cj_v (i := (15, [])) (e := (0, [])) (hM _ (by decide)) rfl
      have c16 : aq_ci L xs e 3 16 = 0 + (1 * ρ 3 + 0) := aq_ci_v (i := (16, [])) (e := (0, [(3, 1)])) (hM _ (by decide)) rfl
      refine ⟨ho, by omega, c11, ?_, ?_, ?_, ?_, by omega⟩
      · rw [c12]; simp [a4]
      · rw [c13]; simp [a4]
      · rw [c14]; simp [a4]
      · rw [c15]; simp [a4]
  · have hq : q ∈ ([(1, 0, 900), (2, 0, 901), (3, (-2147483648), 2147483647), (4, (-9223372036854775808), 9223372036854775807)] : ae_B) := hq
    simp only [List.mem_cons, List.not_mem_nil, or_false] at hq
    rcases hq with rfl | rfl | rfl | rfl
    · exact ⟨(by decide : 1 < 5), b1⟩
    · exact ⟨(by decide : 2 < 5), by show 0 ≤ t; omega, b2.2⟩
    · exact ⟨(by decide : 3 < 5), by show _ ≤ s; rw [← e4, ← s2]; exact s3, by show s ≤ _; rw [← e4, ← s2]; exact s4⟩
    · exact ⟨(by decide : 4 < 5), b3⟩
  · have hf' : f ∈ ([(1, [(1, 1), (2, (-1))])] : List ae_X) := hf'
    rw [List.mem_singleton.mp hf']
    refine ⟨⟨by decide, by decide, trivial⟩, ?_⟩
    show (1 : Int) + (1 * i + (-1 * t + 0)) ≤ 0
    omega
  · have hm : m ∈ ([(3, (5, []), (0, 0, (0, [(1, 1)])), false), (3, (4, []), (0, 0, (0, [(2, 1)])), false), (5, (0, [(1, 1)]), (0, 0, (5, [])), false), (6, (0, [(1, 1)]), (0, 0, (0, [(3, 1)])), false), (7, (0, [(1, 1)]), (1, 0, (0, [(4, 1)])), false)] : List ae_M) := hm
    have ei : ∀ {x : Int}, (0 : Int) + (1 * x + 0) = x := by intro x; omega
    simp only [List.mem_cons, List.not_mem_nil, or_false] at hm
    rcases hm with rfl | rfl | rfl | rfl | rfl
    · exact aq_eo kh (j := 5) ⟨by decide, by decide, by decide⟩ rfl rfl rfl rfl (by rw [e1]; exact ei)
    · exact aq_eo kh (j := 4) ⟨by decide, by decide, by decide⟩ rfl rfl rfl rfl (by rw [e2]; exact ei)
    · exact aq_eo kh (j := i.toNat) ⟨by decide, by decide, by show i.toNat < 901; exact hi9⟩ rfl rfl rfl (by show (0 : Int) + (1 * i + 0) = (i.toNat : Int); omega) (by rw [e3]; rfl)
    · exact aq_eo kh (j := i.toNat) ⟨by decide, by decide, by show i.toNat < 901; exact hi9⟩ rfl rfl rfl (by show (0 : Int) + (1 * i + 0) = (i.toNat : Int); omega) (by rw [e4]; exact ei)
    · exact aq_eol kh (j := i.toNat) ⟨by decide, by decide, by show i.toNat < 901; exact hi9⟩ rfl rfl rfl (by show (0 : Int) + (1 * i + 0) = (i.toNat : Int); omega) (by rw [e5]; exact ei)
  · rw [List.mem_singleton.mp hq]
    exact ⟨_, l0, rfl⟩
noncomputable def ac_a6_s : ap_Tm := ⟨⟨(5, [(1, 0, 900), (2, 0, 901), (3, (-2147483648), 2147483647), (4, (-9223372036854775808), 9223372036854775807)], [(1, [(1, 1), (2, (-1))])], []), [], [(3, (5, []), (0, 0, (0, [(1, 1)])), false), (3, (4, []), (0, 0, (0, [(2, 1)])), false), (5, (0, [(1, 1)]), (0, 0, (6, [])), false), (6, (0, [(1, 1)]), (0, 0, (0, [(3, 1)])), false), (7, (0, [(1, 1)]), (1, 0, (0, [(4, 1)])), false)], ([(1, 58, 0, [(0, (2, 3, (0, [])))], [])], none), ([], none)⟩, [], (1, [])⟩
noncomputable def ac_a6_t : ap_Tm := ⟨⟨(5, [(1, 0, 900), (2, 0, 901), (3, (-2147483648), 2147483647), (4, (-9223372036854775808), 9223372036854775807)], [(1, [(1, 1), (2, (-1))])], []), [], [(3, (5, []), (0, 0, (1, [(1, 1)])), false), (3, (11, []), (0, 0, (6, [])), false), (3, (12, []), (0, 0, ((-1), [])), false), (3, (13, []), (0, 0, ((-1), [])), false), (3, (14, []), (0, 0, (0, [])), false), (3, (15, []), (1, 0, (0, [])), false), (3, (16, []), (0, 0, (0, [(3, 1)])), false)], ([], none), ([], none)⟩, [], (0, [])⟩
noncomputable def ac_a6_W : ap_W := ((ac_amo, [], []), (fun _ _ => false), (fun _ _ => false), (fun _ _ _ => false), (fun _ => none), [ac_a6_s, ac_a6_t], (fun _ => none), 5)
theorem ac_a6_k : ap_chk ac_a6_W 300 true false ac_a6_s = true := by decide +kernel
theorem ac_a6 {L : Nat} {xs : Nat → Int32} {h : List am_E} (hr : ae_rok = true) (hf : ae_fok = true) (hL : L ≤ 3072) (kh : ae_hk true L xs h) {i t s v : Int} (b1 : 0 ≤ i ∧ i ≤ 900) (b2 : i + 1 ≤ t ∧ t ≤ 901) (b3 : (-9223372036854775808) ≤ v ∧ v ≤ 9223372036854775807) (e1 : aq_ci L xs h 3 5 = i) (e2 : aq_ci L xs h 3 4 = t) (e3 : aq_ci L xs h 5 i.toNat = 6) (e4 : aq_ci L xs h 6 i.toNat = s) (e5 : aq_cj L xs h 7 i.toNat = v) {d : Nat} {lw : am_L} (hd : 1 ≤ d) (l0 : am_lk lw 0 = some (.ref 3)) :
    ∃ n e, am_go L xs n d 58 0 lw [] h = some (none, e) ∧ ap_sm L xs false h e ∧ ae_fr ac_amo L xs h e ∧ ae_hk true L xs e ∧ aq_ci L xs e 3 5 = i + 1 ∧ ac_cur L xs e 6 s v := by
  have hi9 : i.toNat < 901 := by omega
  obtain ⟨sx, s1, s2, s3, s4⟩ := aq_int kh (p := 6) (j := i.toNat) ⟨by decide, by decide, by show i.toNat < 901; exact hi9⟩ rfl
  have key := ac_go1 (r0 := ac_r4 L i t s v) (Q := fun o e => o = none ∧ aq_ci L xs e 3 5 = i + 1 ∧ ac_cur L xs e 6 s v) (W := ac_a6_W) (s := ac_a6_s) (k := ac_a6_s.1.1) (M := ac_a6_s.1.2.2.1) (dd := 1) (y := 58) (pc := 0) (lv := [(0, (2, 3, (0, [])))]) (st := []) (d := d) (lw := lw) (sw := []) hr hf hL rfl rfl List.mem_cons_self (fun w hw => ?_) rfl (by decide) kh hd ⟨fun q hq => ?_, fun f hf' => ?_, fun d hd => absurd hd List.not_mem_nil⟩ ⟨⟨by decide, by omega⟩, rfl⟩ (fun m hm => ?_) (fun q hq => ?_) trivial
  · obtain ⟨n, o, e, g1, g2, g3, g4, g5, g6, g7⟩ := key
    subst g5
    exact ⟨n, e, g1, g2, g3, g4, g6, g7⟩
  · rcases List.mem_cons.mp hw with rfl | hw
    · exact Or.inl ⟨_, _, _, ac_a6_k⟩
    · rw [List.mem_singleton.mp hw]
      refine Or.inr (ac_end1 hf (k := ac_a6_t.1.1) (M := ac_a6_t.1.2.2.1) (ov := none) rfl (by decide) (fun ρ o e a K hM ho he => ?_))
      have a1 : ρ 1 = i := a 1 (by show 1 < 5; decide)
      have a3 : ρ 3 = s := a 3 (by show 3 < 5; decide)
      have a4 : ρ 4 = v := a 4 (by show 4 < 5; decide)
      have c5 : aq_ci L xs e 3 5 = 1 + (1 * ρ 1 + 0) := aq_ci_v (i := (5, [])) (e := (1, [(1, 1)])) (hM _ (by decide)) rfl
      have c11 : aq_ci L xs e 3 11 = 6 := aq_ci_v (i := (11, [])) (e := (6, [])) (hM _ (by decide)) rfl
      have c12 : aq_ci L xs e 3 12 = -1 := aq_ci_v (i := (12, [])) (e := ((-1), [])) (hM _ (by decide)) rfl
      have c13 : aq_ci L xs e 3 13 = -1 := aq_ci_v (i := (13, [])) (e := ((-1), [])) (hM _ (by decide)) rfl
      have c14 : aq_ci L xs e 3 14 = 0 := aq_ci_v (i := (14, [])) (e := (0, [])) (hM _ (by decide)) rfl
      have c15 : aq_cj L xs e 3 15 = 0 := aq_cj_v (i := (15, [])) (e := (0, [])) (hM _ (by decide)) rfl
      have c16 : aq_ci L xs e 3 16 = 0 + (1 * ρ 3 + 0) := aq_ci_v (i := (16, [])) (e := (0, [(3, 1)])) (hM _ (by decide)) rfl
      refine ⟨ho, by omega, c11, ?_, ?_, ?_, ?_, by omega⟩
      · rw [c12]; simp [a4]
      · rw [c13]; simp [a4]
      · rw [c14]; simp [a4]
      · rw [c15]; simp [a4]
  · have hq : q ∈ ([(1, 0, 900), (2, 0, 901), (3, (-2147483648), 2147483647), (4, (-9223372036854775808), 9223372036854775807)] : ae_B) := hq
    simp only [List.mem_cons, List.not_mem_nil, or_false] at hq
    rcases hq with rfl | rfl | rfl | rfl
    · exact ⟨(by decide : 1 < 5), b1⟩
    · exact ⟨(by decide : 2 < 5), by show 0 ≤ t; omega, b2.2⟩
    · exact ⟨(by decide : 3 < 5), by show _ ≤ s; rw [← e4, ← s2]; exact s3, by show s ≤ _; rw [← e4, ← s2]; exact s4⟩
    · exact ⟨(by decide : 4 < 5), b3⟩
  · have hf' : f ∈ ([(1, [(1, 1), (2, (-1))])] : List ae_X) := hf'
    rw [List.mem_singleton.mp hf']
    refine ⟨⟨by decide, by decide, trivial⟩, ?_⟩
    show (1 : Int) + (1 * i + (-1 * t + 0)) ≤ 0
    omega
  · have hm : m ∈ ([(3, (5, []), (0, 0, (0, [(1, 1)])), false), (3, (4, []), (0, 0, (0, [(2, 1)])), false), (5, (0, [(1, 1)]), (0, 0, (6, [])), false), (6, (0, [(1, 1)]), (0, 0, (0, [(3, 1)])), false), (7, (0, [(1, 1)]), (1, 0, (0, [(4, 1)])), false)] : List ae_M) := hm
    have ei : ∀ {x : Int}, (0 : Int) + (1 * x + 0) = x := by intro x; omega
    simp only [List.mem_cons, List.not_mem_nil, or_false] at hm
    rcases hm with rfl | rfl | rfl | rfl | rfl
    · exact aq_eo kh (j := 5) ⟨by decide, by decide, by decide⟩ rfl rfl rfl rfl (by rw [e1]; exact ei)
    · exact aq_eo kh (j := 4) ⟨by decide, by decide, by decide⟩ rfl rfl rfl rfl (by rw [e2]; exact ei)
    · exact aq_eo kh (j := i.toNat) ⟨by decide, by decide, by show i.toNat < 901; exact hi9⟩ rfl rfl rfl (by show (0 : Int) + (1 * i + 0) = (i.toNat : Int); omega) (by rw [e3]; rfl)
    · exact aq_eo kh (j := i.toNat) ⟨by decide, by decide, by show i.toNat < 901; exact hi9⟩ rfl rfl rfl (by show (0 : Int) + (1 * i + 0) = (i.toNat : Int); omega) (by rw [e4]; exact ei)
    · exact aq_eol kh (j := i.toNat) ⟨by decide, by decide, by show i.toNat < 901; exact hi9⟩ rfl rfl rfl (by show (0 : Int) + (1 * i + 0) = (i.toNat : Int); omega) (by rw [e5]; exact ei)
  · rw [List.mem_singleton.mp hq]
    exact ⟨_, l0, rfl⟩
/-- a kind's value -/
noncomputable def ac_vok (kd v : Int) : Prop := (kd = 1 → 0 ≤ v ∧ v ≤ 31) ∧ (kd = 2 → 0 ≤ v ∧ v ≤ 9999) ∧ (kd = 3 → 59 ≤ v ∧ v ≤ 62) ∧ (kd = 4 → 1 ≤ v ∧ v ≤ 1099511627776)
theorem ac_adv {L : Nat} {xs : Nat → Int32} {h : List am_E} (hr : ae_rok = true) (hf : ae_fok = true) (hL : L ≤ 3072) (kh : ae_hk true L xs h) {i t kd s v : Int} (b1 : 0 ≤ i ∧ i ≤ 900) (b2 : i + 1 ≤ t ∧ t ≤ 901) (b3 : 0 ≤ kd ∧ kd ≤ 6) (b4 : ac_vok kd v) (e1 : aq_ci L xs h 3 5 = i) (e2 : aq_ci L xs h 3 4 = t) (e3 : aq_ci L xs h 5 i.toNat = kd) (e4 : aq_ci L xs h 6 i.toNat = s) (e5 : aq_cj L xs h 7 i.toNat = v) {d : Nat} {lw : am_L} (hd : 1 ≤ d) (l0 : am_lk lw 0 = some (.ref 3)) :
    ∃ n e, am_go L xs n d 58 0 lw [] h = some (none, e) ∧ ap_sm L xs false h e ∧ ae_fr ac_amo L xs h e ∧ ae_hk true L xs e ∧ aq_ci L xs e 3 5 = i + 1 ∧ ac_cur L xs e kd s v := by
  have hi9 : i.toNat < 901 := by omega
  obtain ⟨x, x1, x2⟩ := aq_lng kh (p := 7) (j := i.toNat) ⟨by decide, by decide, by show i.toNat < 901; exact hi9⟩ rfl
  have v1 := Int64.le_toInt x
  have v2 := Int64.toInt_lt x
  rw [x2, e5] at v1 v2
  have v3 : (-9223372036854775808 : Int) ≤ v ∧ v ≤ 9223372036854775807 := ⟨v1, by omega⟩
  have hk : kd = 0 ∨ kd = 1 ∨ kd = 2 ∨ kd = 3 ∨ kd = 4 ∨ kd = 5 ∨ kd = 6 := by omega
  rcases hk with rfl | rfl | rfl | rfl | rfl | rfl | rfl
  · exact ac_a0 hr hf hL kh b1 b2 v3 e1 e2 e3 e4 e5 hd l0
  · exact ac_a1 hr hf hL kh b1 b2 (b4.1 rfl) e1 e2 e3 e4 e5 hd l0
  · exact ac_a2 hr hf hL kh b1 b2 (b4.2.1 rfl) e1 e2 e3 e4 e5 hd l0
  · exact ac_a3 hr hf hL kh b1 b2 (b4.2.2.1 rfl) e1 e2 e3 e4 e5 hd l0
  · exact ac_a4 hr hf hL kh b1 b2 (b4.2.2.2 rfl) e1 e2 e3 e4 e5 hd l0
  · exact ac_a5 hr hf hL kh b1 b2 v3 e1 e2 e3 e4 e5 hd l0
  · exact ac_a6 hr hf hL kh b1 b2 v3 e1 e2 e3 e4 e5 hd l0

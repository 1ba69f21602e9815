/-! The reference's word methods as a whole -/
noncomputable def ac_lk : List (Int × Int) → Int → Int → Int
  | [], d, _ => d
  | q :: r, d, W => if W = q.1 then q.2 else ac_lk r d W
noncomputable def ac_F (l : List (Int × Int)) (d tk W : Int) : Int := if tk = 1 then ac_lk l d W else d
noncomputable def ac_ws (y : Nat) : ap_Tm := (((3, [(1, 0, 4), (2, (-9223372036854775808), 9223372036854775807)], [], []), [], [(219, ae_num 14, (0, 0, ae_sym 1), false), (219, ae_num 19, (1, 0, ae_sym 2), false)], ([], none), ([(6, y, 0, [(0, (2, 219, ae_num 0))], [])], none)), [], (1, []))
noncomputable def ac_wt (p : Int × Int × Int × Int × Int) : ap_Tm := (((3, [(1, p.1, p.2.1), (2, p.2.2.1, p.2.2.2.1)], [], []), [], [], ([], none), ([], some (0, 0, ae_num p.2.2.2.2))), [], (0, []))
noncomputable def ac_wW (y : Nat) (ts : List (Int × Int × Int × Int × Int)) : ap_W := (([], [], []), (fun _ _ => false), (fun _ _ => false), (fun _ _ _ => false), (fun _ => none), ac_ws y :: ts.map ac_wt, (fun _ => none), 3)
noncomputable def ac_wk (l : List (Int × Int)) (d : Int) (p : Int × Int × Int × Int × Int) : Bool :=
  bif ae_le p.2.1 0 || ae_le 2 p.1 then ae_ie p.2.2.2.2 d
  else ae_ie p.1 1 && ae_ie p.2.1 1 && (bif ae_ie p.2.2.1 p.2.2.2.1 then ae_ie (ac_lk l d p.2.2.1) p.2.2.2.2 else ae_ie p.2.2.2.2 d && l.all fun q => ae_le (q.1 + 1) p.2.2.1 || ae_le (p.2.2.2.1 + 1) q.1)
theorem ac_lk_d {l : List (Int × Int)} {d W : Int} (h : ∀ q ∈ l, W ≠ q.1) : ac_lk l d W = d := by
  induction l with
  | nil => rfl
  | cons q r ih =>
    show (if W = q.1 then q.2 else ac_lk r d W) = d
    rw [if_neg (h q List.mem_cons_self)]
    exact ih (fun q hq => h q (List.mem_cons_of_mem _ hq))
theorem ac_wk_ok {l : List (Int × Int)} {d : Int} {p : Int × Int × Int × Int × Int} (q : ac_wk l d p = true) {tk W : Int} (h1 : p.1 ≤ tk ∧ tk ≤ p.2.1) (h2 : p.2.2.1 ≤ W ∧ W ≤ p.2.2.2.1) : ac_F l d tk W = p.2.2.2.2 := by
  unfold ac_wk at q
  unfold ac_F
  cases hb : ae_le p.2.1 0 || ae_le 2 p.1 with
  | true =>
    rw [hb] at q
    rcases Bool.or_eq_true_iff.mp hb with hb | hb
    · have := ae_le_iff.mp hb; rw [if_neg (by omega)]; exact (ae_ie_ok q).symm
    · have := ae_le_iff.mp hb; rw [if_neg (by omega)]; exact (ae_ie_ok q).symm
  | false =>
    rw [hb] at q
    have q : (ae_ie p.1 1 && ae_ie p.2.1 1 && (bif ae_ie p.2.2.1 p.2.2.2.1 then ae_ie (ac_lk l d p.2.2.1) p.2.2.2.2 else ae_ie p.2.2.2.2 d && l.all fun q => ae_le (q.1 + 1) p.2.2.1 || ae_le (p.2.2.2.1 + 1) q.1)) = true := q
    rw [Bool.and_eq_true, Bool.and_eq_true] at q
    obtain ⟨⟨q1, q2⟩, q3⟩ := q
    have q1 := ae_ie_ok q1
    have q2 := ae_ie_ok q2
    rw [if_pos (by omega)]
    cases hc : ae_ie p.2.2.1 p.2.2.2.1 with
    | true =>
      rw [hc] at q3
      have := ae_ie_ok hc
      rw [show W = p.2.2.1 by omega]
      exact ae_ie_ok q3
    | false =>
      rw [hc] at q3
      have q3 : (ae_ie p.2.2.2.2 d && l.all fun q => ae_le (q.1 + 1) p.2.2.1 || ae_le (p.2.2.2.1 + 1) q.1) = true := q3
      rw [Bool.and_eq_true] at q3
      rw [ae_ie_ok q3.1]
      refine ac_lk_d (fun c hc' e => ?_)
      rcases Bool.or_eq_true_iff.mp (List.all_eq_true.mp q3.2 c hc') with h | h
      · have := ae_le_iff.mp h; omega
      · have := ae_le_iff.mp h; omega
/-- the token and the word as the reference has them -/
noncomputable def ac_tw (L : Nat) (xs : Nat → Int32) (h : List am_E) (tk W : Int) : Prop := ae_hk true L xs h ∧ aq_ci L xs h 219 14 = tk ∧ aq_cj L xs h 219 19 = W
/-- a method's answer, by them; nothing is written -/
noncomputable def ac_WM (dn y : Nat) (F : Int → Int → Int) : Prop := ∀ (L : Nat) (xs : Nat → Int32) (h : List am_E) (d : Nat) (lw : am_L) (tk W : Int), L ≤ 3072 → ac_tw L xs h tk W → dn ≤ d → am_lk lw 0 = some (.ref 219) → ∃ n r e, am_go L xs n d y 0 lw [] h = some (some (.int r), e) ∧ ap_sm L xs true h e ∧ ae_fr [] L xs h e ∧ ac_tw L xs e tk W ∧ r.toInt = F tk W
theorem ac_tw_fr {L : Nat} {xs : Nat → Int32} {h e : List am_E} {tk W : Int} (k : ae_hk true L xs e) (f : ae_fr [] L xs h e) (q : ac_tw L xs h tk W) : ac_tw L xs e tk W := ⟨k, by rw [aq_ci_fr f rfl]; exact q.2.1, by rw [aq_cj_fr f rfl]; exact q.2.2⟩
theorem ac_wm (hr : ae_rok = true) (hf : ae_fok = true) {y : Nat} {l : List (Int × Int)} {dv : Int} {ts : List (Int × Int × Int × Int × Int)} (hc : ap_chk (ac_wW y ts) 3000 false true (ac_ws y) = true) (he : ts.all (ac_wk l dv) = true) : ac_WM 10 y (ac_F l dv) := by
  intro L xs h d lw tk W hL q hd l0
  obtain ⟨kh, q1, q2⟩ := q
  obtain ⟨x, x1, x2, x3, x4⟩ := aq_int kh (p := 219) (j := 14) ⟨by decide, by decide, by decide⟩ rfl
  obtain ⟨w, w1, w2⟩ := aq_lng kh (p := 219) (j := 19) ⟨by decide, by decide, by decide⟩ rfl
  have v1 := Int64.le_toInt w
  have v2 := Int64.toInt_lt w
  rw [w2, q2] at v1 v2
  have x3 : (0 : Int) ≤ x.toInt := x3
  have x4 : x.toInt ≤ 4 := x4
  rw [x2, q1] at x3 x4
  have key := ac_go2 (r0 := fun s => if s = 0 then (L : Int) else if s = 1 then tk else W) (Q := fun o e => ∃ r : Int32, o = some (.int r) ∧ r.toInt = ac_F l dv tk W) (W := ac_wW y ts) (s := ac_ws y) (k := (ac_ws y).1.1) (M := (ac_ws y).1.2.2.1) (dd := 6) (y := y) (pc := 0) (lv := [(0, (2, 219, ae_num 0))]) (st := []) (d := d) (lw := lw) (sw := []) hr hf hL rfl rfl List.mem_cons_self (fun t ht => ?_) rfl (Nat.le_refl 3) kh (by omega) ⟨fun b hb => ?_, fun f hf' => absurd hf' List.not_mem_nil, fun d hd => absurd hd List.not_mem_nil⟩ ⟨⟨(by show 0 < 3; decide), by omega⟩, rfl⟩ (fun m hm => ?_) (fun b hb => ?_) trivial
  · obtain ⟨n, o, e, g1, g2, g3, g4, r, rfl, g5⟩ := key
    exact ⟨n, r, e, g1, g2, g3, ac_tw_fr g4 g3 ⟨kh, q1, q2⟩, g5⟩
  · rcases List.mem_cons.mp ht with rfl | ht
    · exact Or.inl ⟨_, _, _, hc⟩
    · obtain ⟨p, hp, rfl⟩ := List.mem_map.mp ht
      refine Or.inr (ac_end2 hf (k := (ac_wt p).1.1) (M := []) (ov := some (0, 0, ae_num p.2.2.2.2)) rfl rfl (fun ρ o e a K hM ho hk => ?_))
      have a1 : ρ 1 = tk := a 1 (by show 1 < 3; decide)
      have a2 : ρ 2 = W := a 2 (by show 2 < 3; decide)
      have b1 := (K.1 (1, p.1, p.2.1) List.mem_cons_self).2
      have b2 := (K.1 (2, p.2.2.1, p.2.2.2.1) (List.mem_cons_of_mem _ List.mem_cons_self)).2
      have b1 : p.1 ≤ ρ 1 ∧ ρ 1 ≤ p.2.1 := b1
      have b2 : p.2.2.1 ≤ ρ 2 ∧ ρ 2 ≤ p.2.2.2.1 := b2
      rw [a1] at b1
      rw [a2] at b2
      obtain ⟨v, rfl, x, rfl, d⟩ := ho
      refine ⟨x, rfl, ?_⟩
      rw [ac_wk_ok (List.all_eq_true.mp he p hp) b1 b2]
      have := d.2
      rw [(ae_num_dn (n := 3) (ρ := ρ) p.2.2.2.2).2] at this
      exact this.symm
  · have hb : b ∈ ([(1, 0, 4), (2, (-9223372036854775808), 9223372036854775807)] : ae_B) := hb
    simp only [List.mem_cons, List.not_mem_nil, or_false] at hb
    rcases hb with rfl | rfl
    · exact ⟨(by decide : 1 < 3), x3, x4⟩
    · exact ⟨(by decide : 2 < 3), v1, by show W ≤ 9223372036854775807; omega⟩
  · have hm : m ∈ ([(219, ae_num 14, (0, 0, ae_sym 1), false), (219, ae_num 19, (1, 0, ae_sym 2), false)] : List ae_M) := hm
    simp only [List.mem_cons, List.not_mem_nil, or_false] at hm
    rcases hm with rfl | rfl
    · exact aq_eo kh (j := 14) ⟨by decide, by decide, by decide⟩ rfl rfl rfl rfl (by rw [q1]; show (0 : Int) + (1 * tk + 0) = tk; omega)
    · exact aq_eol kh (j := 19) ⟨by decide, by decide, by decide⟩ rfl rfl rfl rfl (by rw [q2]; show (0 : Int) + (1 * W + 0) = W; omega)
  · rw [List.mem_singleton.mp hb]
    exact ⟨_, l0, rfl⟩
noncomputable def ac_l223 : List (Int × Int) := [(599147, 1)]
noncomputable def ac_t223 : List (Int × Int × Int × Int × Int) := [(0, 0, (-9223372036854775808), 9223372036854775807, 0), (2, 4, (-9223372036854775808), 9223372036854775807, 0), (1, 1, (-9223372036854775808), 599146, 0), (1, 1, 599148, 9223372036854775807, 0), (1, 1, 599147, 599147, 1)]
theorem ac_m223 : ac_WM 10 223 (ac_F ac_l223 0) := ac_wm ae_rok_ok ae_fok_ok (ts := ac_t223) (by decide +kernel) (by decide +kernel)
noncomputable def ac_l224 : List (Int × Int) := [(8892563, 1)]
noncomputable def ac_t224 : List (Int × Int × Int × Int × Int) := [(0, 0, (-9223372036854775808), 9223372036854775807, 0), (2, 4, (-9223372036854775808), 9223372036854775807, 0), (1, 1, (-9223372036854775808), 8892562, 0), (1, 1, 8892564, 9223372036854775807, 0), (1, 1, 8892563, 8892563, 1)]
theorem ac_m224 : ac_WM 10 224 (ac_F ac_l224 0) := ac_wm ae_rok_ok ae_fok_ok (ts := ac_t224) (by decide +kernel) (by decide +kernel)
noncomputable def ac_l225 : List (Int × Int) := [(404526675, 1)]
noncomputable def ac_t225 : List (Int × Int × Int × Int × Int) := [(0, 0, (-9223372036854775808), 9223372036854775807, 0), (2, 4, (-9223372036854775808), 9223372036854775807, 0), (1, 1, (-9223372036854775808), 404526674, 0), (1, 1, 404526676, 9223372036854775807, 0), (1, 1, 404526675, 404526675, 1)]
theorem ac_m225 : ac_WM 10 225 (ac_F ac_l225 0) := ac_wm ae_rok_ok ae_fok_ok (ts := ac_t225) (by decide +kernel) (by decide +kernel)
noncomputable def ac_l226 : List (Int × Int) := [(99859, 1)]
noncomputable def ac_t226 : List (Int × Int × Int × Int × Int) := [(0, 0, (-9223372036854775808), 9223372036854775807, 0), (2, 4, (-9223372036854775808), 9223372036854775807, 0), (1, 1, (-9223372036854775808), 99858, 0), (1, 1, 99860, 9223372036854775807, 0), (1, 1, 99859, 99859, 1)]
theorem ac_m226 : ac_WM 10 226 (ac_F ac_l226 0) := ac_wm ae_rok_ok ae_fok_ok (ts := ac_t226) (by decide +kernel) (by decide +kernel)
noncomputable def ac_l227 : List (Int × Int) := [(631941, 1)]
noncomputable def ac_t227 : List (Int × Int × Int × Int × Int) := [(0, 0, (-9223372036854775808), 9223372036854775807, 0), (2, 4, (-9223372036854775808), 9223372036854775807, 0), (1, 1, (-9223372036854775808), 631940, 0), (1, 1, 631942, 9223372036854775807, 0), (1, 1, 631941, 631941, 1)]
theorem ac_m227 : ac_WM 10 227 (ac_F ac_l227 0) := ac_wm ae_rok_ok ae_fok_ok (ts := ac_t227) (by decide +kernel) (by decide +kernel)
noncomputable def ac_l228 : List (Int × Int) := [(777297172, 1)]
noncomputable def ac_t228 : List (Int × Int × Int × Int × Int) := [(0, 0, (-9223372036854775808), 9223372036854775807, 0), (2, 4, (-9223372036854775808), 9223372036854775807, 0), (1, 1, (-9223372036854775808), 777297171, 0), (1, 1, 777297173, 9223372036854775807, 0), (1, 1, 777297172, 777297172, 1)]
theorem ac_m228 : ac_WM 10 228 (ac_F ac_l228 0) := ac_wm ae_rok_ok ae_fok_ok (ts := ac_t228) (by decide +kernel) (by decide +kernel)
noncomputable def ac_l229 : List (Int × Int) := [(14516, 1)]
noncomputable def ac_t229 : List (Int × Int × Int × Int × Int) := [(0, 0, (-9223372036854775808), 9223372036854775807, 0), (2, 4, (-9223372036854775808), 9223372036854775807, 0), (1, 1, (-9223372036854775808), 14515, 0), (1, 1, 14517, 9223372036854775807, 0), (1, 1, 14516, 14516, 1)]
theorem ac_m229 : ac_WM 10 229 (ac_F ac_l229 0) := ac_wm ae_rok_ok ae_fok_ok (ts := ac_t229) (by decide +kernel) (by decide +kernel)
noncomputable def ac_l230 : List (Int × Int) := [(655, 1)]
noncomputable def ac_t230 : List (Int × Int × Int × Int × Int) := [(0, 0, (-9223372036854775808), 9223372036854775807, 0), (2, 4, (-9223372036854775808), 9223372036854775807, 0), (1, 1, (-9223372036854775808), 654, 0), (1, 1, 656, 9223372036854775807, 0), (1, 1, 655, 655, 1)]
theorem ac_m230 : ac_WM 10 230 (ac_F ac_l230 0) := ac_wm ae_rok_ok ae_fok_ok (ts := ac_t230) (by decide +kernel) (by decide +kernel)
noncomputable def ac_l231 : List (Int × Int) := [(4583, 1)]
noncomputable def ac_t231 : List (Int × Int × Int × Int × Int) := [(0, 0, (-9223372036854775808), 9223372036854775807, 0), (2, 4, (-9223372036854775808), 9223372036854775807, 0), (1, 1, (-9223372036854775808), 4582, 0), (1, 1, 4584, 9223372036854775807, 0), (1, 1, 4583, 4583, 1)]
theorem ac_m231 : ac_WM 10 231 (ac_F ac_l231 0) := ac_wm ae_rok_ok ae_fok_ok (ts := ac_t231) (by decide +kernel) (by decide +kernel)
noncomputable def ac_l232 : List (Int × Int) := [(52, 1)]
noncomputable def ac_t232 : List (Int × Int × Int × Int × Int) := [(0, 0, (-9223372036854775808), 9223372036854775807, 0), (2, 4, (-9223372036854775808), 9223372036854775807, 0), (1, 1, (-9223372036854775808), 51, 0), (1, 1, 53, 9223372036854775807, 0), (1, 1, 52, 52, 1)]
theorem ac_m232 : ac_WM 10 232 (ac_F ac_l232 0) := ac_wm ae_rok_ok ae_fok_ok (ts := ac_t232) (by decide +kernel) (by decide +kernel)
noncomputable def ac_l233 : List (Int × Int) := [(3275858099, 1)]
noncomputable def ac_t233 : List (Int × Int × Int × Int × Int) := [(0, 0, (-9223372036854775808), 9223372036854775807, 0), (2, 4, (-9223372036854775808), 9223372036854775807, 0), (1, 1, (-9223372036854775808), 3275858098, 0), (1, 1, 3275858100, 9223372036854775807, 0), (1, 1, 3275858099, 3275858099, 1)]
theorem ac_m233 : ac_WM 10 233 (ac_F ac_l233 0) := ac_wm ae_rok_ok ae_fok_ok (ts := ac_t233) (by decide +kernel) (by decide +kernel)
noncomputable def ac_l234 : List (Int × Int) := [(21285043, 1)]
noncomputable def ac_t234 : List (Int × Int × Int × Int × Int) := [(0, 0, (-9223372036854775808), 9223372036854775807, 0), (2, 4, (-9223372036854775808), 9223372036854775807, 0), (1, 1, (-9223372036854775808), 21285042, 0), (1, 1, 21285044, 9223372036854775807, 0), (1, 1, 21285043, 21285043, 1)]
theorem ac_m234 : ac_WM 10 234 (ac_F ac_l234 0) := ac_wm ae_rok_ok ae_fok_ok (ts := ac_t234) (by decide +kernel) (by decide +kernel)
noncomputable def ac_l235 : List (Int × Int) := [(2553, 1)]
noncomputable def ac_t235 : List (Int × Int × Int × Int × Int) := [(0, 0, (-9223372036854775808), 9223372036854775807, 0), (2, 4, (-9223372036854775808), 9223372036854775807, 0), (1, 1, (-9223372036854775808), 2552, 0), (1, 1, 2554, 9223372036854775807, 0), (1, 1, 2553, 2553, 1)]
theorem ac_m235 : ac_WM 10 235 (ac_F ac_l235 0) := ac_wm ae_rok_ok ae_fok_ok (ts := ac_t235) (by decide +kernel) (by decide +kernel)
noncomputable def ac_l236 : List (Int × Int) := [(19039336, 1)]
noncomputable def ac_t236 : List (Int × Int × Int × Int × Int) := [(0, 0, (-9223372036854775808), 9223372036854775807, 0), (2, 4, (-9223372036854775808), 9223372036854775807, 0), (1, 1, (-9223372036854775808), 19039335, 0), (1, 1, 19039337, 9223372036854775807, 0), (1, 1, 19039336, 19039336, 1)]
theorem ac_m236 : ac_WM 10 236 (ac_F ac_l236 0) := ac_wm ae_rok_ok ae_fok_ok (ts := ac_t236) (by decide +kernel) (by decide +kernel)
noncomputable def ac_l240 : List (Int × Int) := [(5572, 1)]
noncomputable def ac_t240 : List (Int × Int × Int × Int × Int) := [(0, 0, (-9223372036854775808), 9223372036854775807, 0), (2, 4, (-9223372036854775808), 9223372036854775807, 0), (1, 1, (-9223372036854775808), 5571, 0), (1, 1, 5573, 9223372036854775807, 0), (1, 1, 5572, 5572, 1)]
theorem ac_m240 : ac_WM 10 240 (ac_F ac_l240 0) := ac_wm ae_rok_ok ae_fok_ok (ts := ac_t240) (by decide +kernel) (by decide +kernel)
noncomputable def ac_l237 : List (Int × Int) := [(16955865, 0), (114254, 1), (2692260, 2), (114292, 3)]
noncomputable def ac_t237 : List (Int × Int × Int × Int × Int) := [(0, 0, (-9223372036854775808), 9223372036854775807, (-1)), (2, 4, (-9223372036854775808), 9223372036854775807, (-1)), (1, 1, (-9223372036854775808), 114253, (-1)), (1, 1, 114255, 114291, (-1)), (1, 1, 114293, 2692259, (-1)), (1, 1, 2692261, 16955864, (-1)), (1, 1, 16955866, 9223372036854775807, (-1)), (1, 1, 16955865, 16955865, 0), (1, 1, 114254, 114254, 1), (1, 1, 2692260, 2692260, 2), (1, 1, 114292, 114292, 3)]
theorem ac_m237 : ac_WM 10 237 (ac_F ac_l237 (-1)) := ac_wm ae_rok_ok ae_fok_ok (ts := ac_t237) (by decide +kernel) (by decide +kernel)
noncomputable def ac_l238 : List (Int × Int) := [(656741, 0), (278194, 1), (394868, 2), (14516, 3), (7216, 4), (442053, 5), (758955, 6), (763332, 7), (762030, 8), (409072, 9), (643568, 10)]
noncomputable def ac_t238 : List (Int × Int × Int × Int × Int) := [(0, 0, (-9223372036854775808), 9223372036854775807, (-1)), (2, 4, (-9223372036854775808), 9223372036854775807, (-1)), (1, 1, (-9223372036854775808), 7215, (-1)), (1, 1, 7217, 14515, (-1)), (1, 1, 14517, 278193, (-1)), (1, 1, 278195, 394867, (-1)), (1, 1, 394869, 409071, (-1)), (1, 1, 409073, 442052, (-1)), (1, 1, 442054, 643567, (-1)), (1, 1, 643569, 656740, (-1)), (1, 1, 656742, 758954, (-1)), (1, 1, 758956, 762029, (-1)), (1, 1, 762031, 763331, (-1)), (1, 1, 763333, 9223372036854775807, (-1)), (1, 1, 656741, 656741, 0), (1, 1, 278194, 278194, 1), (1, 1, 394868, 394868, 2), (1, 1, 14516, 14516, 3), (1, 1, 7216, 7216, 4), (1, 1, 442053, 442053, 5), (1, 1, 758955, 758955, 6), (1, 1, 763332, 763332, 7), (1, 1, 762030, 762030, 8), (1, 1, 409072, 409072, 9), (1, 1, 643568, 643568, 10)]
theorem ac_m238 : ac_WM 10 238 (ac_F ac_l238 (-1)) := ac_wm ae_rok_ok ae_fok_ok (ts := ac_t238) (by decide +kernel) (by decide +kernel)
noncomputable def ac_l239 : List (Int × Int) := [(591507, 0), (15558, 1), (21285028, 2)]
noncomputable def ac_t239 : List (Int × Int × Int × Int × Int) := [(0, 0, (-9223372036854775808), 9223372036854775807, (-1)), (2, 4, (-9223372036854775808), 9223372036854775807, (-1)), (1, 1, (-9223372036854775808), 15557, (-1)), (1, 1, 15559, 591506, (-1)), (1, 1, 591508, 21285027, (-1)), (1, 1, 21285029, 9223372036854775807, (-1)), (1, 1, 591507, 591507, 0), (1, 1, 15558, 15558, 1), (1, 1, 21285028, 21285028, 2)]
theorem ac_m239 : ac_WM 10 239 (ac_F ac_l239 (-1)) := ac_wm ae_rok_ok ae_fok_ok (ts := ac_t239) (by decide +kernel) (by decide +kernel)

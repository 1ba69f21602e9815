/-! The whole of wordNumber -/
noncomputable def aq_rv (L : Nat) (f pl n a pw sm i ch b : Int) : Nat → Int
  | 0 => (L : Int)
  | 1 => f
  | 2 => pl
  | 3 => n
  | 4 => a
  | 5 => pw
  | 6 => sm
  | 7 => i
  | 8 => ch
  | _ => b
noncomputable def aq_k (s1 s2 c1 c2 : Int) (Fs : List ae_X) : ae_K := (10, [(1, 0, 900), (2, 0, 900), (3, 0, 900), (4, 0, 1100), (5, 0, 200), (6, s1, s2), (7, 0, 162), (8, c1, c2), (9, (-128), 127)], Fs, [])
theorem aq_k_ok {L : Nat} {f pl n a pw sm i ch b s1 s2 c1 c2 : Int} {Fs : List ae_X} (q1 : 0 ≤ f ∧ f ≤ 900) (q2 : 0 ≤ pl ∧ pl ≤ 900) (q3 : 0 ≤ n ∧ n ≤ 900) (q4 : 0 ≤ a ∧ a ≤ 1100) (q5 : 0 ≤ pw ∧ pw ≤ 200) (q6 : s1 ≤ sm ∧ sm ≤ s2) (q7 : 0 ≤ i ∧ i ≤ 162) (q8 : c1 ≤ ch ∧ ch ≤ c2) (q9 : -128 ≤ b ∧ b ≤ 127)
    (hF : ∀ f' ∈ Fs, ae_wb 10 f'.2 = true ∧ ae_ev (aq_rv L f pl n a pw sm i ch b) f' ≤ 0) : ae_okK (aq_rv L f pl n a pw sm i ch b) (aq_k s1 s2 c1 c2 Fs) := by
  refine ⟨fun q hq => ?_, fun f' hf => ⟨ae_wb_ok (hF f' hf).1, (hF f' hf).2⟩, fun d hd => absurd hd List.not_mem_nil⟩
  unfold aq_k at hq
  simp only [List.mem_cons, List.not_mem_nil, or_false] at hq
  rcases hq with rfl | rfl | rfl | rfl | rfl | rfl | rfl | rfl | rfl
  · exact ⟨(by decide : 1 < 10), q1.1, q1.2⟩
  · exact ⟨(by decide : 2 < 10), q2.1, q2.2⟩
  · exact ⟨(by decide : 3 < 10), q3.1, q3.2⟩
  · exact ⟨(by decide : 4 < 10), q4.1, q4.2⟩
  · exact ⟨(by decide : 5 < 10), q5.1, q5.2⟩
  · exact ⟨(by decide : 6 < 10), q6.1, q6.2⟩
  · exact ⟨(by decide : 7 < 10), q7.1, q7.2⟩
  · exact ⟨(by decide : 8 < 10), q8.1, q8.2⟩
  · exact ⟨(by decide : 9 < 10), q9.1, q9.2⟩
section AQY
variable {L : Nat} {xs : Nat → Int32} {h0 : List am_E}
noncomputable def aq_by (L : Nat) (xs : Nat → Int32) (h0 : List am_E) (j : Int) : Int := ae_iz (ae_cell L xs h0 4 j.toNat)
/-- what stays the same: where the word begins and ends, and how long the text is -/
noncomputable def aq_wc (L : Nat) (xs : Nat → Int32) (h0 : List am_E) (f pl n : Int) : Prop := (∃ x : Int32, ae_cell L xs h0 3 7 = some (.int x) ∧ x.toInt = pl) ∧ (∃ x : Int32, ae_cell L xs h0 3 6 = some (.int x) ∧ x.toInt = n) ∧ 0 ≤ f ∧ f ≤ pl ∧ pl ≤ n ∧ n ≤ 900 ∧ ∀ j : Nat, j < 900 → ∃ x : Int32, ae_cell L xs h0 4 j = some (.int x) ∧ -128 ≤ x.toInt ∧ x.toInt ≤ 127
noncomputable def aq_Qw (L : Nat) (xs : Nat → Int32) (h0 : List am_E) (R : Int) (v1 _v2 : Option Value) (e1 e2 : List am_E) : Prop := (∃ x : Int32, v1 = some (.int x) ∧ x.toInt = R) ∧ aq_cf L xs h0 e1 e2
theorem aq_ms {f pl n a pw sm i ch b : Int} (W : aq_wc L xs h0 f pl n) : ∀ m ∈ ([(3, (7, []), (0, 0, (0, [(2, 1)])), false), (3, (6, []), (0, 0, (0, [(3, 1)])), false)] : List ae_M), ae_eo 10 (aq_rv L f pl n a pw sm i ch b) L xs h0 m := by
  intro m hm
  obtain ⟨⟨x, x1, x2⟩, ⟨y, y1, y2⟩, -⟩ := W
  simp only [List.mem_cons, List.not_mem_nil, or_false] at hm
  rcases hm with rfl | rfl
  · refine ⟨7, .int x, ⟨trivial, rfl⟩, x1, x, rfl, ⟨(by decide : 2 < 10), trivial⟩, ?_⟩
    show (0 : Int) + (1 * pl + 0) = x.toInt
    omega
  · refine ⟨6, .int y, ⟨trivial, rfl⟩, y1, y, rfl, ⟨(by decide : 3 < 10), trivial⟩, ?_⟩
    show (0 : Int) + (1 * n + 0) = y.toInt
    omega
theorem aq_ms2 {f pl n a pw sm i ch b : Int} (W : aq_wc L xs h0 f pl n) {e : ae_X} (we : ae_wb 10 e.2 = true) (ha : 0 ≤ a ∧ a < 900) (hb : ae_ev (aq_rv L f pl n a pw sm i ch b) e = aq_by L xs h0 a) : ∀ m ∈ ([(3, (7, []), (0, 0, (0, [(2, 1)])), false), (3, (6, []), (0, 0, (0, [(3, 1)])), false), (4, (0, [(4, 1)]), (0, 0, e), false)] : List ae_M), ae_eo 10 (aq_rv L f pl n a pw sm i ch b) L xs h0 m := by
  intro m hm
  have h2 := aq_ms (a := a) (pw := pw) (sm := sm) (i := i) (ch := ch) (b := b) W
  simp only [List.mem_cons, List.not_mem_nil, or_false] at hm
  rcases hm with rfl | rfl | rfl
  · exact h2 _ (by simp)
  · exact h2 _ (by simp)
  · obtain ⟨x, x1, -⟩ := W.2.2.2.2.2.2 a.toNat (by omega)
    refine ⟨a.toNat, .int x, ⟨⟨(by decide : 4 < 10), trivial⟩, ?_⟩, x1, x, rfl, ae_wb_ok we, ?_⟩
    · show (0 : Int) + (1 * a + 0) = ((a.toNat : Nat) : Int)
      omega
    · show ae_ev (aq_rv L f pl n a pw sm i ch b) e = x.toInt
      rw [hb]
      unfold aq_by
      rw [x1]
      rfl
/-- the end: the answer -/
theorem aq_end1 (hf : ae_fok = true) {W : ap_W} {t : ap_Tm} {kt : ae_K} {mt : List ae_M} {e : ae_X} {R : Int} {r0 : Nat → Int} (ht : t.st = ⟨kt, [], mt, ([], some (0, 0, e)), ([], none)⟩) (hkt : kt.1 = 10) (hr : W.r = 10) (hmo : W.p.mo = []) (hmt : ∀ m ∈ mt, m.2.2.2 = false) (we : ae_wb 10 e.2 = true) (he : ae_ev r0 e = R) : ap_ok W (aq_G L xs h0) L xs (aq_Qw L xs h0 R) r0 t := by
  intro ρ g1 g2 h1 h2 S _ a
  rw [ht] at S
  have C := aq_out hf S hmt
  obtain ⟨-, -, -, -, T1, T2, -, -, -⟩ := S
  obtain ⟨f1, v1⟩ := g1
  obtain ⟨f2, v2⟩ := g2
  have T1a : ap_ff kt.1 ρ [] f1 := T1.1
  have T1b : ae_ro kt.1 ρ (some (0, 0, e)) v1 := T1.2 rfl
  have T2a : ap_ff kt.1 ρ [] f2 := T2.1
  cases f1 with
  | cons _ _ => exact absurd T1a id
  | nil =>
    cases f2 with
    | cons _ _ => exact absurd T2a id
    | nil =>
      obtain ⟨v, hv, x, hx, d⟩ := T1b
      refine ⟨v1, h1, v2, h2, rfl, rfl, ap_sm_rf, ap_sm_rf, ae_fr_rf _ _ _ _, ⟨x, ?_, ?_⟩, C⟩
      · rw [hv, hx]
      · rw [← d.2, ← he]
        exact aq_ev10 (fun s hs => a s (by rw [hr]; exact hs)) we
theorem aq_wl_c : ∀ c ∈ am_wl, c = 32 ∨ (97 ≤ c ∧ c ≤ 122) := by decide +kernel
theorem aq_nI {c : Nat} (h : c ≤ 200) : (nI c).toInt = (c : Int) := by
  have : ∀ q : Fin 201, (nI q.val).toInt = ((q.val : Nat) : Int) := by decide +kernel
  exact this ⟨c, by omega⟩
theorem aq_wn_go (hr : ae_rok = true) (hf : ae_fok = true) (hL : L ≤ 3072) {f pl n R : Int} (W : aq_wc L xs h0 f pl n) : ∀ (cs : List Nat) (i : Nat), am_wl.drop i = cs → i ≤ 163 → ∀ (a pw : Int) (sm : Bool) (d : Nat) (lw : am_L) (h1 h2 : List am_E), 2 ≤ d → aq_cf L xs h0 h1 h2 → aq_lo lw f a pw (if sm then 1 else 0) (i : Int) → 0 ≤ a → a ≤ f + (i : Int) → 0 ≤ pw → pw ≤ (i : Int) → aq_kwr (aq_by L xs h0) f pl cs a pw sm = R →
    ap_end [] L xs (aq_Qw L xs h0 R) ([(d, 56, 10, lw, [])], none) ([], none) h1 h2 := by
  have hL' : L < 2147483648 := by omega
  obtain ⟨W1, W2, W3, W4, W5, W6, W7⟩ := id W
  have hwl : am_wl.length = 163 := by decide +kernel
  have hsm : ∀ sm : Bool, (0 : Int) ≤ (if sm then 1 else 0) ∧ (if sm then (1 : Int) else 0) ≤ 1 := by intro sm; cases sm <;> decide
  intro cs
  induction cs with
  | nil =>
    intro i hcs hi a pw sm d lw h1 h2 hd C lo a1 a2 p1 p2 hR
    have hi2 : i = 163 := by
      have := congrArg List.length hcs
      rw [List.length_drop, hwl] at this
      simp at this
      omega
    subst hi2
    have key := aq_ok2 (Q := aq_Qw L xs h0 R) (r0 := aq_rv L f pl n a pw (if sm then 1 else 0) 0 32 0) (xs := xs) (h0 := h0) (s := aqw_z_s) (t := aqw_z_t) hr hf hL aqw_z_k (aq_end1 hf rfl rfl rfl rfl (by decide) rfl hR)
    refine key (aq_rv L f pl n a pw (if sm then 1 else 0) 0 32 0) _ _ h1 h2 (aq_in C (aq_k_ok (s1 := 0) (s2 := 1) (c1 := 32) (c2 := 122) ⟨W3, by omega⟩ ⟨by omega, by omega⟩ ⟨by omega, by omega⟩ ⟨a1, by omega⟩ ⟨p1, by omega⟩ (hsm sm) ⟨by decide, by decide⟩ ⟨by decide, by decide⟩ ⟨by decide, by decide⟩ ?_) ⟨⟨by decide, hL'⟩, rfl⟩ rfl (aq_ms W) ⟨⟨⟨hd, rfl, rfl, ?_, trivial⟩, trivial⟩, fun e => by cases e⟩ ⟨trivial, fun _ => rfl⟩) (by decide) (fun _ _ => rfl)
    · intro f' hf'
      rw [List.mem_singleton.mp hf']
      refine ⟨by decide, ?_⟩
      show (0 : Int) + (1 * pl + (-1 * n + 0)) ≤ 0
      omega
    · refine aq_lo_lr lo ⟨⟨by decide, trivial⟩, ?_⟩ ⟨⟨by decide, trivial⟩, ?_⟩ ⟨⟨by decide, trivial⟩, ?_⟩ ⟨⟨by decide, trivial⟩, ?_⟩ ⟨trivial, rfl⟩
      · show (0 : Int) + (1 * f + 0) = f; omega
      · show (0 : Int) + (1 * a + 0) = a; omega
      · show (0 : Int) + (1 * pw + 0) = pw; omega
      · show (0 : Int) + (1 * (if sm then 1 else 0) + 0) = (if sm then 1 else 0); omega
  | cons c r ih =>
    intro i hcs hi a pw sm d lw h1 h2 hd C lo a1 a2 p1 p2 hR
    have hlt : i < 163 := by
      rcases Nat.lt_or_ge i 163 with h | h
      · exact h
      · rw [List.drop_of_length_le (by omega)] at hcs; cases hcs
    have hget : am_wl.getD i 0 = c := by
      have h3 : (am_wl.drop i)[0]? = some c := by rw [hcs]; rfl
      rw [List.getElem?_drop, Nat.add_zero] at h3
      rw [List.getD_eq_getElem?_getD, h3]
      rfl
    have hdrop : am_wl.drop (i + 1) = r := by
      rw [← List.drop_drop, hcs]
      rfl
    have hc := aq_wl_c c (by rw [← hget, List.getD_eq_getElem?_getD, List.getElem?_eq_getElem (by omega)]; exact List.getElem_mem _)
    have hev : ∀ {ch b : Int} {sm' : Int}, ae_ev (aq_rv L f pl n a pw sm' (i : Int) ch b) (0, [(4, 1)]) = a ∧ ae_ev (aq_rv L f pl n a pw sm' (i : Int) ch b) (0, [(5, 1)]) = pw ∧ ae_ev (aq_rv L f pl n a pw sm' (i : Int) ch b) (0, [(6, 1)]) = sm' ∧ ae_ev (aq_rv L f pl n a pw sm' (i : Int) ch b) (0, [(7, 1)]) = (i : Int) := by
      intro ch b sm'
      refine ⟨?_, ?_, ?_, ?_⟩
      · show (0 : Int) + (1 * a + 0) = a; omega
      · show (0 : Int) + (1 * pw + 0) = pw; omega
      · show (0 : Int) + (1 * sm' + 0) = sm'; omega
      · show (0 : Int) + (1 * (i : Int) + 0) = (i : Int); omega
    have F1 : ∀ {ch b sm' : Int}, ∀ f' ∈ ([(0, [(2, 1), (3, -1)])] : List ae_X), ae_wb 10 f'.2 = true ∧ ae_ev (aq_rv L f pl n a pw sm' (i : Int) ch b) f' ≤ 0 := by
      intro ch b sm' f' hf'
      rw [List.mem_singleton.mp hf']
      refine ⟨by decide, ?_⟩
      show (0 : Int) + (1 * pl + (-1 * n + 0)) ≤ 0
      omega
    have kA : ∀ {sm' ch b s1 s2 c1 c2 : Int} {Fs : List ae_X}, s1 ≤ sm' ∧ sm' ≤ s2 → c1 ≤ ch ∧ ch ≤ c2 → -128 ≤ b ∧ b ≤ 127 → (∀ f' ∈ Fs, ae_wb 10 f'.2 = true ∧ ae_ev (aq_rv L f pl n a pw sm' (i : Int) ch b) f' ≤ 0) → ae_okK (aq_rv L f pl n a pw sm' (i : Int) ch b) (aq_k s1 s2 c1 c2 Fs) :=
      fun q6 q8 q9 hF => aq_k_ok ⟨W3, by omega⟩ ⟨by omega, by omega⟩ ⟨by omega, by omega⟩ ⟨a1, by omega⟩ ⟨p1, by omega⟩ q6 ⟨by omega, by omega⟩ q8 q9 hF
    -- to the letter
    refine aq_go1 (s := aqw_a_s) (t := aqw_a_t) (r0 := aq_rv L f pl n a pw (if sm then 1 else 0) (i : Int) 32 0) hr hf hL aqw_a_k (ks := aq_k 0 1 32 122 [(0, [(2, 1), (3, -1)])]) (kt := aq_k 0 1 32 122 [(0, [(2, 1), (3, -1)])]) (ms := [(3, (7, []), (0, 0, (0, [(2, 1)])), false), (3, (6, []), (0, 0, (0, [(3, 1)])), false)]) (mt := [(3, (7, []), (0, 0, (0, [(2, 1)])), false), (3, (6, []), (0, 0, (0, [(3, 1)])), false)]) (c2 := (0, [(4, 1)])) (c3 := (0, [(5, 1)])) (c4 := (0, [(6, 1)])) (c5 := (0, [(7, 1)])) (e2 := (0, [(4, 1)])) (e3 := (0, [(5, 1)])) (e4 := (0, [(6, 1)])) (e5 := (0, [(7, 1)])) rfl rfl rfl rfl (by decide) (by decide) hd C (kA (hsm sm) ⟨by decide, by decide⟩ ⟨by decide, by decide⟩ F1) ⟨hL', rfl⟩ (aq_ms W) (by rw [hev.1, hev.2.1, hev.2.2.1, hev.2.2.2]; exact lo) trivial (fun d' lw' sw' h1' h2' hd' C' lo' hsw' => ?_)
    rw [hsw' rfl]
    rw [hev.1, hev.2.1, hev.2.2.1, hev.2.2.2] at lo'
    have lo' : aq_lo lw' f a pw (if sm then 1 else 0) (i : Int) := lo'
    -- the letter itself
    have step : ap_end [] L xs (aq_Qw L xs h0 R) ([(d', 56, 27, lw', [.int (nI c)])], none) ([], none) h1' h2' → ap_end [] L xs (aq_Qw L xs h0 R) ([(d', 56, 20, lw', [])], none) ([], none) h1' h2' := by
      intro ⟨z1, z2, z3, z4, z5, z6⟩
      refine ⟨z1, z2, z3, z4, ?_, z6⟩
      obtain ⟨-, v1, v2, v3, v4, v5, u1, u2, u3, u4, u5, e1, e2, e3, e4, e5⟩ := lo'
      have g5 : am_gi lw' 5 = some v5 := by unfold am_gi; rw [u5]; rfl
      have g6 : am_in v5 am_wn = true := ae_in_ok (by omega) (by rw [e5]; show (i : Int) < ((163 : Nat) : Int); omega)
      have g7 := ae_clamp (x := v5) (by omega)
      have g8 : v5.toNatClampNeg = i := by omega
      have hcode : am_code 56 20 = some (.ldc 87, 1001, 5) := by rfl
      refine am_fn1 (z := (27, lw', [.int (nI c)], none)) (h1 := h1') hcode rfl rfl ?_ rfl z5
      show (am_gi lw' 5).bind _ = _
      rw [g5]
      show am_if (am_in v5 am_wn) _ = _
      rw [g6, g8, hget]
      rfl
    refine step ?_
    -- on by what it is
    have hnc : (nI c).toInt = (c : Int) := aq_nI (by omega)
    have hst : ∀ {b sm' : Int}, ae_sr 10 (aq_rv L f pl n a pw sm' (i : Int) (c : Int) b) [(0, 0, (0, [(8, 1)]))] [.int (nI c)] := by
      intro b sm'
      refine ⟨⟨nI c, rfl, ⟨(by decide : 8 < 10), trivial⟩, ?_⟩, trivial⟩
      show (0 : Int) + (1 * (c : Int) + 0) = (nI c).toInt
      omega
    have hlo : ∀ {b : Int} {s' : Int}, (if sm then 1 else 0) = s' → aq_lo lw' (aq_rv L f pl n a pw s' (i : Int) (c : Int) b 1) (ae_ev (aq_rv L f pl n a pw s' (i : Int) (c : Int) b) (0, [(4, 1)])) (ae_ev (aq_rv L f pl n a pw s' (i : Int) (c : Int) b) (0, [(5, 1)])) (ae_ev (aq_rv L f pl n a pw s' (i : Int) (c : Int) b) (0, [(6, 1)])) (ae_ev (aq_rv L f pl n a pw s' (i : Int) (c : Int) b) (0, [(7, 1)])) := by
      intro b s' e
      rw [hev.1, hev.2.1, hev.2.2.1, hev.2.2.2, ← e]
      exact lo'
    have nxt : ∀ (a' pw' : Int) (sm' : Bool) (d'' : Nat) (lw'' : am_L) (sw'' : List Value) (g1 g2 : List am_E), 2 ≤ d'' → aq_cf L xs h0 g1 g2 → aq_lo lw'' f a' pw' (if sm' then 1 else 0) ((i : Int) + 1) → sw'' = [] → 0 ≤ a' → a' ≤ f + (i : Int) + 1 → 0 ≤ pw' → pw' ≤ (i : Int) + 1 → aq_kwr (aq_by L xs h0) f pl r a' pw' sm' = R → ap_end [] L xs (aq_Qw L xs h0 R) ([(d'', 56, 10, lw'', sw'')], none) ([], none) g1 g2 := by
      intro a' pw' sm' d'' lw'' sw'' g1 g2 q1 q2 q3 q4 q5 q6 q7 q8 q9
      rw [q4]
      exact ih (i + 1) hdrop (by omega) a' pw' sm' d'' lw'' g1 g2 q1 q2 (by rw [show ((i + 1 : Nat) : Int) = (i : Int) + 1 by omega]; exact q3) q5 (by omega) q7 (by omega) q9
    have ev1 : ∀ {b s' : Int}, ae_ev (aq_rv L f pl n a pw s' (i : Int) (c : Int) b) (1, [(4, 1)]) = a + 1 ∧ ae_ev (aq_rv L f pl n a pw s' (i : Int) (c : Int) b) (1, [(5, 1)]) = pw + 1 ∧ ae_ev (aq_rv L f pl n a pw s' (i : Int) (c : Int) b) (1, [(7, 1)]) = (i : Int) + 1 ∧ ae_ev (aq_rv L f pl n a pw s' (i : Int) (c : Int) b) (0, [(1, 1)]) = f := by
      intro b s'
      refine ⟨?_, ?_, ?_, ?_⟩
      · show (1 : Int) + (1 * a + 0) = a + 1; omega
      · show (1 : Int) + (1 * pw + 0) = pw + 1; omega
      · show (1 : Int) + (1 * (i : Int) + 0) = (i : Int) + 1; omega
      · show (0 : Int) + (1 * f + 0) = f; omega
    have F2 : ∀ {b s' : Int} {e : ae_X}, ae_wb 10 e.2 = true → ae_ev (aq_rv L f pl n a pw s' (i : Int) (c : Int) b) e ≤ 0 → ∀ f' ∈ ([(0, [(2, 1), (3, -1)]), e] : List ae_X), ae_wb 10 f'.2 = true ∧ ae_ev (aq_rv L f pl n a pw s' (i : Int) (c : Int) b) f' ≤ 0 := by
      intro b s' e w1 w2 f' hf'
      rcases List.mem_cons.mp hf' with rfl | hf'
      · exact F1 _ (List.mem_singleton.mpr rfl)
      · rw [List.mem_singleton.mp hf']; exact ⟨w1, w2⟩
    have F3 : ∀ {b s' : Int} {e e' : ae_X}, ae_wb 10 e.2 = true → ae_wb 10 e'.2 = true → ae_ev (aq_rv L f pl n a pw s' (i : Int) (c : Int) b) e ≤ 0 → ae_ev (aq_rv L f pl n a pw s' (i : Int) (c : Int) b) e' ≤ 0 → ∀ f' ∈ ([(0, [(2, 1), (3, -1)]), e, e'] : List ae_X), ae_wb 10 f'.2 = true ∧ ae_ev (aq_rv L f pl n a pw s' (i : Int) (c : Int) b) f' ≤ 0 := by
      intro b s' e e' w1 w1' w2 w2' f' hf'
      rcases List.mem_cons.mp hf' with rfl | hf'
      · exact F1 _ (List.mem_singleton.mpr rfl)
      · rcases List.mem_cons.mp hf' with rfl | hf'
        · exact ⟨w1, w2⟩
        · rw [List.mem_singleton.mp hf']; exact ⟨w1', w2'⟩
    have z0 : (-128 : Int) ≤ 0 ∧ (0 : Int) ≤ 127 := ⟨by decide, by decide⟩
    rcases hc with rfl | hc
    · cases sm with
      | false =>
        have hR : aq_kwr (aq_by L xs h0) f pl r f (pw + 1) true = R := hR
        refine aq_go1 (s := aqw_b2_s) (t := aqw_b2_t) (r0 := (aq_rv L f pl n a pw 0 (i : Int) ((32 : Nat) : Int) 0)) hr hf hL aqw_b2_k (ks := (aq_k 0 0 32 32 [(0, [(2, 1), (3, -1)])])) (kt := (aq_k 0 0 32 32 [(0, [(2, 1), (3, -1)])])) (ms := [(3, (7, []), (0, 0, (0, [(2, 1)])), false), (3, (6, []), (0, 0, (0, [(3, 1)])), false)]) (mt := [(3, (7, []), (0, 0, (0, [(2, 1)])), false), (3, (6, []), (0, 0, (0, [(3, 1)])), false)]) (c2 := (0, [(4, 1)])) (c3 := (0, [(5, 1)])) (c4 := (0, [(6, 1)])) (c5 := (0, [(7, 1)])) (e2 := (0, [(1, 1)])) (e3 := (1, [(5, 1)])) (e4 := (1, [])) (e5 := (1, [(7, 1)])) (ss := [(0, 0, (0, [(8, 1)]))]) (tt := []) rfl rfl rfl rfl (by decide) (by decide) hd' C' (kA ⟨by decide, by decide⟩ ⟨by omega, by omega⟩ z0 F1) ⟨hL', rfl⟩ (aq_ms W) (hlo rfl) hst (fun d'' lw'' sw'' g1 g2 q1 q2 q3 q4 => ?_)
        have q3 : aq_lo lw'' f f (pw + 1) (if true then 1 else 0) ((i : Int) + 1) := by
          have q3' := q3
          rw [ev1.2.2.2, ev1.2.1, ev1.2.2.1] at q3'
          exact q3'
        exact nxt f (pw + 1) true d'' lw'' sw'' g1 g2 q1 q2 q3 (q4 rfl) (by omega) (by omega) (by omega) (by omega) hR
      | true =>
        rcases Int.lt_trichotomy a pl with hlt' | heq | hgt
        · have hR : aq_kwr (aq_by L xs h0) f pl r f (pw + 1) true = R := by
            have hR' : (bif (true && decide (a = pl)) then pw else aq_kwr (aq_by L xs h0) f pl r f (pw + 1) true) = R := hR
            rw [decide_eq_false (by omega)] at hR'
            exact hR'
          refine aq_go1 (s := aqw_b3_s) (t := aqw_b3_t) (r0 := (aq_rv L f pl n a pw 1 (i : Int) ((32 : Nat) : Int) 0)) hr hf hL aqw_b3_k (ks := (aq_k 1 1 32 32 [(0, [(2, 1), (3, -1)]), (1, [(2, -1), (4, 1)])])) (kt := (aq_k 1 1 32 32 [(0, [(2, 1), (3, -1)]), (1, [(2, -1), (4, 1)])])) (ms := [(3, (7, []), (0, 0, (0, [(2, 1)])), false), (3, (6, []), (0, 0, (0, [(3, 1)])), false)]) (mt := [(3, (7, []), (0, 0, (0, [(2, 1)])), false), (3, (6, []), (0, 0, (0, [(3, 1)])), false)]) (c2 := (0, [(4, 1)])) (c3 := (0, [(5, 1)])) (c4 := (0, [(6, 1)])) (c5 := (0, [(7, 1)])) (e2 := (0, [(1, 1)])) (e3 := (1, [(5, 1)])) (e4 := (1, [])) (e5 := (1, [(7, 1)])) (ss := [(0, 0, (0, [(8, 1)]))]) (tt := []) rfl rfl rfl rfl (by decide) (by decide) hd' C' (kA ⟨by decide, by decide⟩ ⟨by omega, by omega⟩ z0 (F2 (by decide) (by show (1 : Int) + (-1 * pl + (1 * a + 0)) ≤ 0; omega))) ⟨hL', rfl⟩ (aq_ms W) (hlo rfl) hst (fun d'' lw'' sw'' g1 g2 q1 q2 q3 q4 => ?_)
          have q3 : aq_lo lw'' f f (pw + 1) (if true then 1 else 0) ((i : Int) + 1) := by
            have q3' := q3
            rw [ev1.2.2.2, ev1.2.1, ev1.2.2.1] at q3'
            exact q3'
          exact nxt f (pw + 1) true d'' lw'' sw'' g1 g2 q1 q2 q3 (q4 rfl) (by omega) (by omega) (by omega) (by omega) hR
        · have hR : pw = R := by
            have hR' : (bif (true && decide (a = pl)) then pw else aq_kwr (aq_by L xs h0) f pl r f (pw + 1) true) = R := hR
            rw [decide_eq_true heq] at hR'
            exact hR'
          have key := aq_ok2 (Q := aq_Qw L xs h0 R) (r0 := aq_rv L f pl n a pw 1 (i : Int) ((32 : Nat) : Int) 0) (xs := xs) (h0 := h0) (s := aqw_b1_s) (t := aqw_b1_t) hr hf hL aqw_b1_k (aq_end1 hf rfl rfl rfl rfl (by decide) (by decide) (by rw [← hR]; show (0 : Int) + (1 * pw + 0) = pw; omega))
          refine key (aq_rv L f pl n a pw 1 (i : Int) ((32 : Nat) : Int) 0) _ _ h1' h2' (aq_in C' (show ae_okK _ (aq_k 1 1 32 32 [(0, [(2, 1), (3, -1)]), (0, [(2, -1), (4, 1)]), (0, [(2, 1), (4, -1)])]) from kA ⟨by decide, by decide⟩ ⟨by decide, by decide⟩ z0 (F3 (by decide) (by decide) (by show (0 : Int) + (-1 * pl + (1 * a + 0)) ≤ 0; omega) (by show (0 : Int) + (1 * pl + (-1 * a + 0)) ≤ 0; omega))) ⟨⟨by decide, hL'⟩, rfl⟩ rfl (aq_ms W) ⟨⟨⟨hd', rfl, rfl, ?_, hst⟩, trivial⟩, fun e => by cases e⟩ ⟨trivial, fun _ => rfl⟩) (by decide) (fun _ _ => rfl)
          refine aq_lo_lr lo' ⟨⟨by decide, trivial⟩, ?_⟩ ⟨⟨by decide, trivial⟩, hev.1⟩ ⟨⟨by decide, trivial⟩, hev.2.1⟩ ⟨⟨by decide, trivial⟩, hev.2.2.1⟩ ⟨⟨by decide, trivial⟩, hev.2.2.2⟩
          exact ev1.2.2.2
        · have hR : aq_kwr (aq_by L xs h0) f pl r f (pw + 1) true = R := by
            have hR' : (bif (true && decide (a = pl)) then pw else aq_kwr (aq_by L xs h0) f pl r f (pw + 1) true) = R := hR
            rw [decide_eq_false (by omega)] at hR'
            exact hR'
          refine aq_go1 (s := aqw_b4_s) (t := aqw_b4_t) (r0 := (aq_rv L f pl n a pw 1 (i : Int) ((32 : Nat) : Int) 0)) hr hf hL aqw_b4_k (ks := (aq_k 1 1 32 32 [(0, [(2, 1), (3, -1)]), (1, [(2, 1), (4, -1)])])) (kt := (aq_k 1 1 32 32 [(0, [(2, 1), (3, -1)]), (1, [(2, 1), (4, -1)])])) (ms := [(3, (7, []), (0, 0, (0, [(2, 1)])), false), (3, (6, []), (0, 0, (0, [(3, 1)])), false)]) (mt := [(3, (7, []), (0, 0, (0, [(2, 1)])), false), (3, (6, []), (0, 0, (0, [(3, 1)])), false)]) (c2 := (0, [(4, 1)])) (c3 := (0, [(5, 1)])) (c4 := (0, [(6, 1)])) (c5 := (0, [(7, 1)])) (e2 := (0, [(1, 1)])) (e3 := (1, [(5, 1)])) (e4 := (1, [])) (e5 := (1, [(7, 1)])) (ss := [(0, 0, (0, [(8, 1)]))]) (tt := []) rfl rfl rfl rfl (by decide) (by decide) hd' C' (kA ⟨by decide, by decide⟩ ⟨by omega, by omega⟩ z0 (F2 (by decide) (by show (1 : Int) + (1 * pl + (-1 * a + 0)) ≤ 0; omega))) ⟨hL', rfl⟩ (aq_ms W) (hlo rfl) hst (fun d'' lw'' sw'' g1 g2 q1 q2 q3 q4 => ?_)
          have q3 : aq_lo lw'' f f (pw + 1) (if true then 1 else 0) ((i : Int) + 1) := by
            have q3' := q3
            rw [ev1.2.2.2, ev1.2.1, ev1.2.2.1] at q3'
            exact q3'
          exact nxt f (pw + 1) true d'' lw'' sw'' g1 g2 q1 q2 q3 (q4 rfl) (by omega) (by omega) (by omega) (by omega) hR
    · have hR : aq_kwr (aq_by L xs h0) f pl r (a + 1) pw (sm && decide (a < pl) && decide (aq_by L xs h0 a = (c : Int))) = R := by
        have hR' : (bif Nat.beq c 32 then _ else aq_kwr (aq_by L xs h0) f pl r (a + 1) pw (sm && decide (a < pl) && decide (aq_by L xs h0 a = (c : Int)))) = R := hR
        have hb : Nat.beq c 32 = false := by
          cases h : Nat.beq c 32 with
          | false => rfl
          | true => have := Nat.eq_of_beq_eq_true h; omega
        rw [hb] at hR'
        exact hR'
      cases sm with
      | false =>
        have hR : aq_kwr (aq_by L xs h0) f pl r (a + 1) pw false = R := hR
        refine aq_go1 (s := aqw_b5_s) (t := aqw_b5_t) (r0 := (aq_rv L f pl n a pw 0 (i : Int) (c : Int) 0)) hr hf hL aqw_b5_k (ks := (aq_k 0 0 97 122 [(0, [(2, 1), (3, -1)])])) (kt := (aq_k 0 0 97 122 [(0, [(2, 1), (3, -1)])])) (ms := [(3, (7, []), (0, 0, (0, [(2, 1)])), false), (3, (6, []), (0, 0, (0, [(3, 1)])), false)]) (mt := [(3, (7, []), (0, 0, (0, [(2, 1)])), false), (3, (6, []), (0, 0, (0, [(3, 1)])), false)]) (c2 := (0, [(4, 1)])) (c3 := (0, [(5, 1)])) (c4 := (0, [(6, 1)])) (c5 := (0, [(7, 1)])) (e2 := (1, [(4, 1)])) (e3 := (0, [(5, 1)])) (e4 := (0, [])) (e5 := (1, [(7, 1)])) (ss := [(0, 0, (0, [(8, 1)]))]) (tt := []) rfl rfl rfl rfl (by decide) (by decide) hd' C' (kA ⟨by decide, by decide⟩ ⟨by omega, by omega⟩ z0 F1) ⟨hL', rfl⟩ (aq_ms W) (hlo rfl) hst (fun d'' lw'' sw'' g1 g2 q1 q2 q3 q4 => ?_)
        have q3 : aq_lo lw'' f (a + 1) pw (if false then 1 else 0) ((i : Int) + 1) := by
          have q3' := q3
          rw [ev1.1, hev.2.1, ev1.2.2.1] at q3'
          exact q3'
        exact nxt (a + 1) pw false d'' lw'' sw'' g1 g2 q1 q2 q3 (q4 rfl) (by omega) (by omega) (by omega) (by omega) hR
      | true =>
        rcases Int.lt_or_le a pl with hlt' | hge
        · have hby : -128 ≤ aq_by L xs h0 a ∧ aq_by L xs h0 a ≤ 127 := by
            obtain ⟨x, x1, x2, x3⟩ := W7 a.toNat (by omega)
            unfold aq_by
            rw [x1]
            exact ⟨x2, x3⟩
          rw [decide_eq_true hlt'] at hR
          rcases Int.lt_trichotomy (aq_by L xs h0 a) (c : Int) with b1 | b1 | b1
          · rw [decide_eq_false (by omega)] at hR
            have hR : aq_kwr (aq_by L xs h0) f pl r (a + 1) pw false = R := hR
            refine aq_go1 (s := aqw_b7_s) (t := aqw_b7_t) (r0 := (aq_rv L f pl n a pw 1 (i : Int) (c : Int) (aq_by L xs h0 a))) hr hf hL aqw_b7_k (ks := (aq_k 1 1 97 122 [(0, [(2, 1), (3, -1)]), (1, [(2, -1), (4, 1)]), (1, [(8, -1), (9, 1)])])) (kt := (aq_k 1 1 97 122 [(0, [(2, 1), (3, -1)]), (1, [(2, -1), (4, 1)]), (1, [(8, -1), (9, 1)])])) (ms := [(3, (7, []), (0, 0, (0, [(2, 1)])), false), (3, (6, []), (0, 0, (0, [(3, 1)])), false), (4, (0, [(4, 1)]), (0, 0, (0, [(9, 1)])), false)]) (mt := [(3, (7, []), (0, 0, (0, [(2, 1)])), false), (3, (6, []), (0, 0, (0, [(3, 1)])), false), (4, (0, [(4, 1)]), (0, 0, (0, [(9, 1)])), false)]) (c2 := (0, [(4, 1)])) (c3 := (0, [(5, 1)])) (c4 := (0, [(6, 1)])) (c5 := (0, [(7, 1)])) (e2 := (1, [(4, 1)])) (e3 := (0, [(5, 1)])) (e4 := (0, [])) (e5 := (1, [(7, 1)])) (ss := [(0, 0, (0, [(8, 1)]))]) (tt := []) rfl rfl rfl rfl (by decide) (by decide) hd' C' (kA ⟨by decide, by decide⟩ ⟨by omega, by omega⟩ hby (F3 (by decide) (by decide) (by show (1 : Int) + (-1 * pl + (1 * a + 0)) ≤ 0; omega) (by show (1 : Int) + (-1 * (c : Int) + (1 * aq_by L xs h0 a + 0)) ≤ 0; omega))) ⟨hL', rfl⟩ (aq_ms2 W (by decide) ⟨a1, by omega⟩ (by show (0 : Int) + (1 * aq_by L xs h0 a + 0) = _; omega)) (hlo rfl) hst (fun d'' lw'' sw'' g1 g2 q1 q2 q3 q4 => ?_)
            have q3 : aq_lo lw'' f (a + 1) pw (if false then 1 else 0) ((i : Int) + 1) := by
              have q3' := q3
              rw [ev1.1, hev.2.1, ev1.2.2.1] at q3'
              exact q3'
            exact nxt (a + 1) pw false d'' lw'' sw'' g1 g2 q1 q2 q3 (q4 rfl) (by omega) (by omega) (by omega) (by omega) hR
          · rw [decide_eq_true b1] at hR
            have hR : aq_kwr (aq_by L xs h0) f pl r (a + 1) pw true = R := hR
            refine aq_go1 (s := aqw_b6_s) (t := aqw_b6_t) (r0 := (aq_rv L f pl n a pw 1 (i : Int) (c : Int) (aq_by L xs h0 a))) hr hf hL aqw_b6_k (ks := (aq_k 1 1 97 122 [(0, [(2, 1), (3, -1)]), (1, [(2, -1), (4, 1)])])) (kt := (aq_k 1 1 97 122 [(0, [(2, 1), (3, -1)]), (1, [(2, -1), (4, 1)])])) (ms := [(3, (7, []), (0, 0, (0, [(2, 1)])), false), (3, (6, []), (0, 0, (0, [(3, 1)])), false), (4, (0, [(4, 1)]), (0, 0, (0, [(8, 1)])), false)]) (mt := [(3, (7, []), (0, 0, (0, [(2, 1)])), false), (3, (6, []), (0, 0, (0, [(3, 1)])), false), (4, (0, [(4, 1)]), (0, 0, (0, [(8, 1)])), false)]) (c2 := (0, [(4, 1)])) (c3 := (0, [(5, 1)])) (c4 := (0, [(6, 1)])) (c5 := (0, [(7, 1)])) (e2 := (1, [(4, 1)])) (e3 := (0, [(5, 1)])) (e4 := (1, [])) (e5 := (1, [(7, 1)])) (ss := [(0, 0, (0, [(8, 1)]))]) (tt := []) rfl rfl rfl rfl (by decide) (by decide) hd' C' (kA ⟨by decide, by decide⟩ ⟨by omega, by omega⟩ hby (F2 (by decide) (by show (1 : Int) + (-1 * pl + (1 * a + 0)) ≤ 0; omega))) ⟨hL', rfl⟩ (aq_ms2 W (by decide) ⟨a1, by omega⟩ (by show (0 : Int) + (1 * (c : Int) + 0) = _; omega)) (hlo rfl) hst (fun d'' lw'' sw'' g1 g2 q1 q2 q3 q4 => ?_)
            have q3 : aq_lo lw'' f (a + 1) pw (if true then 1 else 0) ((i : Int) + 1) := by
              have q3' := q3
              rw [ev1.1, hev.2.1, ev1.2.2.1] at q3'
              exact q3'
            exact nxt (a + 1) pw true d'' lw'' sw'' g1 g2 q1 q2 q3 (q4 rfl) (by omega) (by omega) (by omega) (by omega) hR
          · rw [decide_eq_false (by omega)] at hR
            have hR : aq_kwr (aq_by L xs h0) f pl r (a + 1) pw false = R := hR
            refine aq_go1 (s := aqw_b8_s) (t := aqw_b8_t) (r0 := (aq_rv L f pl n a pw 1 (i : Int) (c : Int) (aq_by L xs h0 a))) hr hf hL aqw_b8_k (ks := (aq_k 1 1 97 122 [(0, [(2, 1), (3, -1)]), (1, [(2, -1), (4, 1)]), (1, [(8, 1), (9, -1)])])) (kt := (aq_k 1 1 97 122 [(0, [(2, 1), (3, -1)]), (1, [(2, -1), (4, 1)]), (1, [(8, 1), (9, -1)])])) (ms := [(3, (7, []), (0, 0, (0, [(2, 1)])), false), (3, (6, []), (0, 0, (0, [(3, 1)])), false), (4, (0, [(4, 1)]), (0, 0, (0, [(9, 1)])), false)]) (mt := [(3, (7, []), (0, 0, (0, [(2, 1)])), false), (3, (6, []), (0, 0, (0, [(3, 1)])), false), (4, (0, [(4, 1)]), (0, 0, (0, [(9, 1)])), false)]) (c2 := (0, [(4, 1)])) (c3 := (0, [(5, 1)])) (c4 := (0, [(6, 1)])) (c5 := (0, [(7, 1)])) (e2 := (1, [(4, 1)])) (e3 := (0, [(5, 1)])) (e4 := (0, [])) (e5 := (1, [(7, 1)])) (ss := [(0, 0, (0, [(8, 1)]))]) (tt := []) rfl rfl rfl rfl (by decide) (by decide) hd' C' (kA ⟨by decide, by decide⟩ ⟨by omega, by omega⟩ hby (F3 (by decide) (by decide) (by show (1 : Int) + (-1 * pl + (1 * a + 0)) ≤ 0; omega) (by show (1 : Int) + (1 * (c : Int) + (-1 * aq_by L xs h0 a + 0)) ≤ 0; omega))) ⟨hL', rfl⟩ (aq_ms2 W (by decide) ⟨a1, by omega⟩ (by show (0 : Int) + (1 * aq_by L xs h0 a + 0) = _; omega)) (hlo rfl) hst (fun d'' lw'' sw'' g1 g2 q1 q2 q3 q4 => ?_)
            have q3 : aq_lo lw'' f (a + 1) pw (if false then 1 else 0) ((i : Int) + 1) := by
              have q3' := q3
              rw [ev1.1, hev.2.1, ev1.2.2.1] at q3'
              exact q3'
            exact nxt (a + 1) pw false d'' lw'' sw'' g1 g2 q1 q2 q3 (q4 rfl) (by omega) (by omega) (by omega) (by omega) hR
        · rw [decide_eq_false (by omega)] at hR
          have hR : aq_kwr (aq_by L xs h0) f pl r (a + 1) pw false = R := hR
          refine aq_go1 (s := aqw_b9_s) (t := aqw_b9_t) (r0 := (aq_rv L f pl n a pw 1 (i : Int) (c : Int) 0)) hr hf hL aqw_b9_k (ks := (aq_k 1 1 97 122 [(0, [(2, 1), (3, -1)]), (0, [(2, 1), (4, -1)])])) (kt := (aq_k 1 1 97 122 [(0, [(2, 1), (3, -1)]), (0, [(2, 1), (4, -1)])])) (ms := [(3, (7, []), (0, 0, (0, [(2, 1)])), false), (3, (6, []), (0, 0, (0, [(3, 1)])), false)]) (mt := [(3, (7, []), (0, 0, (0, [(2, 1)])), false), (3, (6, []), (0, 0, (0, [(3, 1)])), false)]) (c2 := (0, [(4, 1)])) (c3 := (0, [(5, 1)])) (c4 := (0, [(6, 1)])) (c5 := (0, [(7, 1)])) (e2 := (1, [(4, 1)])) (e3 := (0, [(5, 1)])) (e4 := (0, [])) (e5 := (1, [(7, 1)])) (ss := [(0, 0, (0, [(8, 1)]))]) (tt := []) rfl rfl rfl rfl (by decide) (by decide) hd' C' (kA ⟨by decide, by decide⟩ ⟨by omega, by omega⟩ z0 (F2 (by decide) (by show (0 : Int) + (1 * pl + (-1 * a + 0)) ≤ 0; omega))) ⟨hL', rfl⟩ (aq_ms W) (hlo rfl) hst (fun d'' lw'' sw'' g1 g2 q1 q2 q3 q4 => ?_)
          have q3 : aq_lo lw'' f (a + 1) pw (if false then 1 else 0) ((i : Int) + 1) := by
            have q3' := q3
            rw [ev1.1, hev.2.1, ev1.2.2.1] at q3'
            exact q3'
          exact nxt (a + 1) pw false d'' lw'' sw'' g1 g2 q1 q2 q3 (q4 rfl) (by omega) (by omega) (by omega) (by omega) hR
/-- the call of wordNumber -/
theorem aq_wn (hr : ae_rok = true) (hf : ae_fok = true) (hL : L ≤ 3072) {f pl n : Int} {v : Int32} (hv : v.toInt = f) (W : aq_wc L xs h0 f pl n) {d : Nat} (hd : 2 ≤ d) {h1 h2 : List am_E} (C : aq_cf L xs h0 h1 h2) : ∃ n x h', am_go L xs n d 56 0 (lv_args 0 [.ref 3, .int v]) [] h1 = some (some (.int x), h') ∧ x.toInt = aq_kwr (aq_by L xs h0) f pl am_wl f 0 true ∧ aq_cf L xs h0 h' h2 ∧ ap_sm L xs false h1 h' := by
  have stp : ∃ lw, aq_lo lw f f 0 1 0 ∧ ∀ x, am_fn L xs (d, 56, 10, lw, []) [] h1 x → am_fn L xs (d, 56, 0, lv_args 0 [.ref 3, .int v], []) [] h1 x := by
    refine ⟨_, ?_, fun x hx => am_fn1 (i := .iload_n 1) (a := 0) (b := 0) rfl rfl rfl (by rfl) rfl (am_fn1 (i := .istore_n 2) (a := 0) (b := 0) rfl rfl rfl (by rfl) rfl (am_fn1 (i := .iconst 0) (a := 0) (b := 0) rfl rfl rfl (by rfl) rfl (am_fn1 (i := .istore_n 3) (a := 0) (b := 0) rfl rfl rfl (by rfl) rfl (am_fn1 (i := .iconst 1) (a := 0) (b := 0) rfl rfl rfl (by rfl) rfl (am_fn1 (i := .istore 4) (a := 0) (b := 0) rfl rfl rfl (by rfl) rfl (am_fn1 (i := .iconst 0) (a := 0) (b := 0) rfl rfl rfl (by rfl) rfl (am_fn1 (i := .istore 5) (a := 0) (b := 0) rfl rfl rfl (by rfl) rfl hx)))))))⟩
    exact ⟨rfl, v, v, 0, 1, 0, rfl, rfl, rfl, rfl, rfl, hv, hv, rfl, rfl, rfl⟩
  obtain ⟨lw, lo, run⟩ := stp
  obtain ⟨-, -, W3, W4, W5, W6, -⟩ := id W
  obtain ⟨v1, e1, v2, e2, r1, r2, r3, -, -, ⟨x, q1, q2⟩, q3⟩ := aq_wn_go (R := aq_kwr (aq_by L xs h0) f pl am_wl f 0 true) hr hf hL W am_wl 0 rfl (by omega) f 0 true d lw h1 h2 hd C lo W3 (by omega) (by omega) (by omega) rfl
  have r2 : (v2, e2) = (none, h2) := r2
  cases r2
  obtain ⟨m, g⟩ := run _ r1
  subst q1
  exact ⟨m, x, e1, g, q2, q3, r3⟩
end AQY

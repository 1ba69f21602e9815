/-! Pairs of calls: from runs side by side to one behind the other -/
section LWP
variable {L : Nat} {xs : Nat → Int32}
theorem lw_two (hL : L ≤ 3072) {T : List ab_Ti} {mo : ae_Mo} {y1 y2 kd : Nat} {cmp : Bool} {S : List ae_Ag} {Q : Nat → Option Value → Option Value → List am_E → List am_E → Prop} 
    (key : ∀ (c : Nat) (hA hB : List am_E) (vs : List Value) (d : Nat), 640 ≤ d → ae_avs S vs → ae_hk false L xs hA → ae_hk false L xs hB → lw_I T L xs (am_mX2 ap_b false hA hB) → ap_end mo L xs (Q c) ([(d, y1, 0, lv_args 0 (.ref 1 :: vs), [])], none) ([(d, y2, 0, lv_args 0 (.ref 219 :: vs), [])], none) hA hB)
    (fin : ∀ hA hB v1 v2 e1 e2, lw_I T L xs (am_mX2 ap_b false hA hB) → ae_fr mo L xs (am_mX2 ap_b false hA hB) (am_mX2 ap_b false e1 e2) → (∀ c, Q c v1 v2 e1 e2) → ae_hk false L xs e1 ∧ ae_hk false L xs e2 ∧ ab_RI T (ab_cv L xs (am_mX2 ap_b false e1 e2)) ∧ aq_ci L xs e1 3 8 = aq_ci L xs e2 219 8 ∧ ((∀ j, j < 900 → ae_cell L xs e2 223 j = ae_cell L xs e1 4 j) ∨ ∀ j, ae_inm mo 4 j = false ∧ ae_inm mo 223 j = false) ∧ ∃ w1 w2, v1 = some w1 ∧ v2 = some w2 ∧ lw_kd kd w1 ∧ lw_kd kd w2 ∧ (cmp = true → w1 = w2))
    (hP : ∀ hA hB v1 v2 e1 e2, lw_I T L xs (am_mX2 ap_b false hA hB) → ae_fr mo L xs (am_mX2 ap_b false hA hB) (am_mX2 ap_b false e1 e2) → (∀ c, Q c v1 v2 e1 e2) → ae_hk false L xs e1 → ae_hk false L xs e2 → lw_dP L xs (am_mX2 ap_b false e1 e2)) : lw_PL (lw_I T L xs) L xs S y1 y2 kd cmp := by
  intro h vs d hd hv I
  have kh := I.1
  have self : am_mX2 ap_b false h h = h := am_mix_self ap_b h
  have key' : ∀ (hB : List am_E), ae_hk false L xs hB → lw_I T L xs (am_mX2 ap_b false h hB) → ∃ v1 e1 v2 e2, (∃ n, am_go L xs n d y1 0 (lv_args 0 (.ref 1 :: vs)) [] h = some (v1, e1)) ∧ (∃ n, am_go L xs n d y2 0 (lv_args 0 (.ref 219 :: vs)) [] hB = some (v2, e2)) ∧ ap_sm L xs false h e1 ∧ ap_sm L xs true hB e2 ∧ ae_fr mo L xs (am_mX2 ap_b false h hB) (am_mX2 ap_b false e1 e2) ∧ ∀ c, Q c v1 v2 e1 e2 := by
    intro hB kB IB
    obtain ⟨v1, e1, v2, e2, ⟨n1, g1⟩, ⟨n2, g2⟩, m1, m2, fr, -⟩ := key 0 h hB vs d hd hv kh kB IB
    refine ⟨v1, e1, v2, e2, ⟨n1, g1⟩, ⟨n2, g2⟩, m1, m2, fr, fun c => ?_⟩
    obtain ⟨u1, f1, u2, f2, ⟨n3, g3⟩, ⟨n4, g4⟩, -, -, -, q⟩ := key c h hB vs d hd hv kh kB IB
    have h1 := am_det g1 g3
    have h2 := am_det g2 g4
    injection h1 with h1a h1b
    injection h2 with h2a h2b
    subst h1a; subst h1b; subst h2a; subst h2b
    exact q
  obtain ⟨v1, e1, v2, e2, ⟨n1, g1⟩, -, m1, m2, fr0, q⟩ := key' h kh (by rw [self]; exact I)
  obtain ⟨k1, k2, -⟩ := fin h h v1 v2 e1 e2 (by rw [self]; exact I) fr0 q
  have e0 : ∀ p j, ae_cell L xs (am_mX2 ap_b false h e1) p j = ae_cell L xs h p j := fun p j => by
    cases hs : am_sd ap_b false p with
    | true => exact ap_c (s := false) kh.1.1 k1.1.1 hs
    | false => rw [ap_cx (s := false) kh.1.1 k1.1.1 hs]; exact m1 p j hs
  have km := aq_mixhk kh k1
  obtain ⟨u1, f1, u2, f2, ⟨n3, g3⟩, ⟨n4, g4⟩, p1, p2, fr, qq⟩ := key' e1 k1 (lw_I_eq e0 km.1 I)
  have h1 := am_det g1 g3
  injection h1 with h1a h1b
  subst h1a; subst h1b
  obtain ⟨-, kf, ri, sz, by1, w1, w2, rfl, rfl, d1, d2, cm⟩ := fin h e1 v1 u2 e1 f2 (lw_I_eq e0 km.1 I) fr qq
  have ef : ∀ p j, ae_cell L xs f2 p j = ae_cell L xs (am_mX2 ap_b false e1 f2) p j := fun p j => by
    cases hs : am_sd ap_b false p with
    | true =>
      rw [ap_c (s := false) k1.1.1 kf.1.1 hs]
      exact p2 p j (by rw [show (true : Bool) = !false from rfl, ap_sd_not, hs]; rfl)
    | false => rw [ap_cx (s := false) k1.1.1 kf.1.1 hs]
  refine ⟨n1, w1, e1, n4, w2, f2, g1, k1.1, g4, lw_I_eq ef kf.1 ⟨aq_mixhk k1 kf, ?_, ?_, ?_, hP h e1 _ _ e1 f2 (lw_I_eq e0 km.1 I) fr qq k1 kf⟩, d1, d2, cm⟩
  · exact ri
  · rw [aq_ciB (p := 219) (j := 8) k1.1.1 kf.1.1 rfl, aq_ciA (p := 3) (j := 8) k1.1.1 kf.1.1 rfl, sz]
  · intro j hj
    rcases by1 with b | b
    · rw [ap_cx (s := false) k1.1.1 kf.1.1 rfl, ap_c (s := false) k1.1.1 kf.1.1 rfl]; exact b j hj
    · rw [fr 223 j (b j).2, fr 4 j (b j).1, e0, e0]; exact I.2.2.2.1 j hj
/-- pairs of which nothing is asked -/
noncomputable def lw_rtc (kd : Nat) (o : Option ae_I) : Bool := match o with
  | some i => Nat.beq i.1 kd
  | none => false
theorem lw_rtc_ok {kd : Nat} {o : Option ae_I} {r : Option Value} (q : lw_rtc kd o = true) (h : ae_rt o r) : ∃ v, r = some v ∧ lw_kd kd v := by
  cases o with
  | none => cases q
  | some i =>
    obtain ⟨v, h1, h2, h3⟩ := h
    obtain ⟨a, lo, hi⟩ := i
    have q : a = kd := Nat.eq_of_beq_eq_true q
    subst q
    refine ⟨v, h1, ?_⟩
    match a, h2, h3 with
    | 0, h2, _ => obtain ⟨x, hx, -⟩ := h2; exact ⟨x, hx⟩
    | 1, h2, _ => obtain ⟨x, hx, -⟩ := h2; exact ⟨x, hx⟩
    | a + 2, _, h3 => exact absurd h3 (by show ¬ a + 2 < 2; omega)
noncomputable def lw_trc (T : List ab_Ti) (c1 c2 : ae_Ct) (S : List ae_Ag) (kd : Nat) : Bool :=
  decide (c1.2.1 = (2, 1, 0, 0) :: S) && decide (c2.2.1 = (2, 219, 0, 0) :: S) && !c1.2.2.2.2.2.2.1 && !c2.2.2.2.2.2.2.1 && Nat.ble c1.2.2.2.2.2.2.2 640 && Nat.ble c2.2.2.2.2.2.2.2 640 && lw_rtc kd c1.2.2.1 && lw_rtc kd c2.2.2.1 &&
  (c1.2.2.2.1 ++ c2.2.2.2.1).all (fun r => !(Nat.beq r.1 4) && !(Nat.beq r.1 223)) && !(ae_inm (c1.2.2.2.1 ++ c2.2.2.2.1) 3 8) && !(ae_inm (c1.2.2.2.1 ++ c2.2.2.2.1) 219 8) && (T.all (ab_nw (c1.2.2.2.1 ++ c2.2.2.2.1)) && lw_Pm (c1.2.2.2.1 ++ c2.2.2.2.1))
theorem lw_triv (hL : L ≤ 3072) {T : List ab_Ti} {c1 c2 : ae_Ct} {S : List ae_Ag} {kd : Nat} (q : lw_trc T c1 c2 S kd = true) (t1 : ae_CT c1) (t2 : ae_CT c2) : lw_PL (lw_I T L xs) L xs S c1.1 c2.1 kd false := by
  intro h vs d hd hv I
  unfold lw_trc at q
  simp only [Bool.and_eq_true, Bool.not_eq_true'] at q
  obtain ⟨⟨⟨⟨⟨⟨⟨⟨⟨⟨⟨q1, q2⟩, q3⟩, q4⟩, q5⟩, q6⟩, q7⟩, q8⟩, q9⟩, q10⟩, q11⟩, q12, q13⟩ := q
  have q1 := of_decide_eq_true q1
  have q2 := of_decide_eq_true q2
  have q5 := Nat.le_of_ble_eq_true q5
  have q6 := Nat.le_of_ble_eq_true q6
  obtain ⟨n1, r1, h1, z1, z2, z3, z4, -⟩ := t1 L xs (.ref 1 :: vs) h d hL (by rw [q1]; exact ⟨rfl, hv⟩) (by rw [q3]; exact I.1) (by omega)
  rw [q3] at z2
  obtain ⟨n2, r2, h2, y1, y2, y3, y4, -⟩ := t2 L xs (.ref 219 :: vs) h1 d hL (by rw [q2]; exact ⟨rfl, hv⟩) (by rw [q4]; exact z2) (by omega)
  rw [q4] at y2
  obtain ⟨v1, rfl, d1⟩ := lw_rtc_ok q7 z4
  obtain ⟨v2, rfl, d2⟩ := lw_rtc_ok q8 y4
  have fr : ae_fr (c1.2.2.2.1 ++ c2.2.2.2.1) L xs h h2 := fun p j hp => (y3 p j (lw_inm_app hp).2).trans (z3 p j (lw_inm_app hp).1)
  have nb : ∀ p j, p = 4 ∨ p = 223 → ae_inm (c1.2.2.2.1 ++ c2.2.2.2.1) p j = false := fun p j hp => by
    cases hin : ae_inm (c1.2.2.2.1 ++ c2.2.2.2.1) p j with
    | false => rfl
    | true =>
      obtain ⟨t, ht, h3⟩ := List.any_eq_true.mp hin
      have h4 := List.all_eq_true.mp q9 t ht
      simp only [Bool.and_eq_true] at h3
      rw [Nat.eq_of_beq_eq_true h3.1.1] at h4
      rcases hp with rfl | rfl
      · exact absurd h4 (by decide)
      · exact absurd h4 (by decide)
  refine ⟨n1, v1, h1, n2, v2, h2, z1, z2.1, y1, ⟨y2, lw_T_nw q12 fr I.2.1, ?_, fun j hj => ?_, lw_dP_fr q13 I.2.2.2.2 fr⟩, d1, d2, fun e => by cases e⟩
  · rw [aq_ci_fr fr q11, aq_ci_fr fr q10]; exact I.2.2.1
  · rw [fr 223 j (nb 223 j (Or.inr rfl)), fr 4 j (nb 4 j (Or.inl rfl))]; exact I.2.2.2.1 j hj
theorem lw_avc {lo hi : Int} {S : List ae_Ag} {vs : List Value} (h : ae_avs ((0, 0, lo, hi) :: S) vs) : ∃ (x : Int32) (t : List Value), vs = .int x :: t ∧ ae_avs S t := by
  cases vs with
  | nil => exact absurd h id
  | cons v t =>
    obtain ⟨⟨x, hx, -⟩, h2⟩ := h
    exact ⟨x, t, by rw [hx], h2⟩
theorem lw_avn {vs : List Value} (h : ae_avs [] vs) : vs = [] := by
  cases vs with
  | nil => rfl
  | cons _ _ => exact absurd h id
theorem lw_szm {T : List ab_Ti} {hA hB : List am_E} (kA : ae_hk false L xs hA) (kB : ae_hk false L xs hB) (I : lw_I T L xs (am_mX2 ap_b false hA hB)) : aq_ci L xs hA 3 8 = aq_ci L xs hB 219 8 := by
  have := I.2.2.1
  rw [aq_ciB (p := 219) (j := 8) kA.1.1 kB.1.1 rfl, aq_ciA (p := 3) (j := 8) kA.1.1 kB.1.1 rfl] at this
  exact this.symm
theorem lw_feed (hL : L ≤ 3072) {T : List ab_Ti} {l1 l2 l3 l4 l5 u1 u2 u3 u4 u5 : Int} (hT : (T.all (ab_nw fd_mo)) = true) (hm : lw_Pm fd_mo = true) : lw_PL (lw_I T L xs) L xs [(0, 0, l1, u1), (0, 0, l2, u2), (0, 0, l3, u3), (0, 0, l4, u4), (0, 0, l5, u5)] 144 248 0 false := by
  refine lw_two (mo := fd_mo) (Q := fun c => fd_Q L xs (c % 900)) hL (fun c hA hB vs d hd hv kA kB I => ?_) (fun hA hB v1 v2 e1 e2 I0 fr q => ?_) (fun hA hB v1 v2 e1 e2 I0 fr _ _ _ => lw_dP_fr hm I0.2.2.2.2 fr)
  · obtain ⟨a1, t1, rfl, hw1⟩ := lw_avc hv
    obtain ⟨a2, t2, rfl, hw2⟩ := lw_avc hw1
    obtain ⟨a3, t3, rfl, hw3⟩ := lw_avc hw2
    obtain ⟨a4, t4, rfl, hw4⟩ := lw_avc hw3
    obtain ⟨a5, t5, rfl, hw5⟩ := lw_avc hw4
    obtain rfl := lw_avn hw5
    have hc : c % 900 < 900 := Nat.mod_lt _ (by decide)
    refine fd_all hL kA kB (by omega) hc (lw_szm kA kB I) ?_
    have := I.2.2.2.1 (c % 900) hc
    rw [ap_cx (s := false) kA.1.1 kB.1.1 rfl, ap_c (s := false) kA.1.1 kB.1.1 rfl] at this
    exact this
  · obtain ⟨k1, k2, sz, -, x, rfl, rfl⟩ := q 0
    refine ⟨k1, k2, lw_T_nw hT fr I0.2.1, sz, Or.inl (fun j hj => ?_), _, _, rfl, rfl, ⟨x, rfl⟩, ⟨x, rfl⟩, fun _ => rfl⟩
    have := (q j).2.2.2.1
    rw [Nat.mod_eq_of_lt hj] at this
    exact this
theorem lw_yard (hL : L ≤ 3072) {TT : List ab_Ti} {l1 u1 : Int} {cmp : Bool} (hT1 : ∀ f, ab_RI TT f → ab_RI lw_T0 f) (hc : (TT.all fun t => ab_nw ya_mo2 t || lw_T0.any (ab_qt t)) = true) (hm : lw_Pm ya_mo2 = true) : lw_PL (lw_I TT L xs) L xs [(0, 0, l1, u1)] 145 261 0 cmp := by
  refine lw_two (mo := ya_mo2) (Q := fun _ => ya_Q L xs) hL (fun c hA hB vs d hd hv kA kB I => ?_) (fun hA hB v1 v2 e1 e2 I0 fr q => ?_) (fun hA hB v1 v2 e1 e2 I0 fr _ _ _ => lw_dP_fr hm I0.2.2.2.2 fr)
  · obtain ⟨a1, t1, rfl, hw1⟩ := lw_avc hv
    obtain rfl := lw_avn hw1
    exact ya_call hL kA kB (by omega) (lw_szm kA kB I) I.2.2.2.1 (hT1 _ I.2.1)
  · obtain ⟨k1, k2, ri, sz, x, rfl, rfl⟩ := q 0
    exact ⟨k1, k2, lw_T_mix hc fr I0.2.1 ri, sz, Or.inr (fun j => ⟨rfl, rfl⟩), _, _, rfl, rfl, ⟨x, rfl⟩, ⟨x, rfl⟩, fun _ => rfl⟩
theorem lw_weak {I : List am_E → Prop} {S : List ae_Ag} {y1 y2 kd : Nat} {cmp : Bool} (q : lw_PL I L xs S y1 y2 kd cmp) : lw_PL I L xs S y1 y2 kd false := fun h vs d hd hv hI => by
  obtain ⟨n1, v1, h1, n2, v2, h2, a, b, c, e, f, g, -⟩ := q h vs d hd hv hI
  exact ⟨n1, v1, h1, n2, v2, h2, a, b, c, e, f, g, fun e => by cases e⟩
end LWP

/-! Both methods from the call to the answers, ties kept -/
noncomputable def ak_z (S : List ae_Ag) : ae_K × List ae_V := (ae_ia S ae_k00).getD (ae_k00, [])
noncomputable def ak_s (D y1 y2 : Nat) (S : List ae_Ag) (T : List ab_Ti) (rk : ae_X) : ab_Tm := (((ak_z S).1, [], [], [], T, ([(D, y1, 0, ae_ag2 0 ((2, 1, ae_num 0) :: (ak_z S).2), [])], none), ([(D, y2, 0, ae_ag2 0 ((2, 219, ae_num 0) :: (ak_z S).2), [])], none)), [], rk)
noncomputable def ak_Q (T : List ab_Ti) (kd : Nat) (cmp : Bool) (L : Nat) (xs : Nat → Int32) (v1 v2 : Option Value) (e1 e2 : List am_E) : Prop := ae_hk false L xs e1 ∧ ae_hk false L xs e2 ∧ ab_RI T (ab_cv L xs (am_mX2 ap_b false e1 e2)) ∧ ∃ w1 w2, v1 = some w1 ∧ v2 = some w2 ∧ lw_kd kd w1 ∧ lw_kd kd w2 ∧ (cmp = true → w1 = w2)
section AKA
variable {L : Nat} {xs : Nat → Int32}
theorem ak_end {W : ab_W} {r0 : Nat → Int} {T : List ab_Ti} {cmp : Bool} {t : ab_Tm} {k : ae_K} {M : List ae_M} {a b : ae_X} (ht : t.st = (k, M, [], [], T, ([], some (0, 0, a)), ([], some (0, 0, b)))) (hM : (M.all fun m => !m.2.2.2) = true) (hc : cmp = true → a = b) : ab_ok W (fun _ => True) L xs (ak_Q T 0 cmp L xs) r0 t :=
  ad_endT (a := a) (b := b) ae_fok_ok ht hM (fun ρ x y e1 e2 _ _ _ d1 d2 k1 k2 _ ri => ⟨k1, k2, ri, _, _, rfl, rfl, ⟨x, rfl⟩, ⟨y, rfl⟩, fun h => by
    have e := hc h
    subst e
    rw [Int32.toInt_inj.mp (d1.symm.trans d2)]⟩)
theorem lw_act (hL : L ≤ 3072) {T TT : List ab_Ti} {W : ab_W} {S : List ae_Ag} {D y1 y2 kd : Nat} {cmp : Bool} {rk : ae_X} (hz : (ae_ia S ae_k00).isSome = true) (hD : Nat.ble D 640 = true) (hW : W.r = 1) (hs : ak_s D y1 y2 S T rk ∈ W.tms)
    (hok : ∀ r0 : Nat → Int, ∀ t ∈ W.tms, ab_ok W (fun _ => True) L xs (ak_Q T kd cmp L xs) r0 t) (hnb : (W.mo.all fun r => !(Nat.beq r.1 4) && !(Nat.beq r.1 223)) = true) (h3 : ae_inm W.mo 3 8 = false) (h9 : ae_inm W.mo 219 8 = false) (hT1 : ∀ f, ab_RI TT f → ab_RI T f) (hc : (TT.all fun t => ab_nw W.mo t || T.any (ab_qt t)) = true) (hm : lw_Pm W.mo = true) : lw_PL (lw_I TT L xs) L xs S y1 y2 kd cmp := by
  have nb : ∀ p j, p = 4 ∨ p = 223 → ae_inm W.mo p j = false := fun p j hp => by
    cases hin : ae_inm W.mo p j with
    | false => rfl
    | true =>
      obtain ⟨t, ht, h3⟩ := List.any_eq_true.mp hin
      have h4 := List.all_eq_true.mp hnb t ht
      simp only [Bool.and_eq_true] at h3
      rw [Nat.eq_of_beq_eq_true h3.1.1] at h4
      rcases hp with rfl | rfl
      · exact absurd h4 (by decide)
      · exact absurd h4 (by decide)
  refine lw_two (Q := fun _ => ak_Q T kd cmp L xs) (mo := W.mo) hL (fun c hA hB vs d hd hv kA kB I => ?_) (fun hA hB v1 v2 e1 e2 I0 fr q => ?_) (fun hA hB v1 v2 e1 e2 I0 fr _ _ _ => lw_dP_fr hm I0.2.2.2.2 fr)
  · obtain ⟨z, hz'⟩ := Option.isSome_iff_exists.mp hz
    have K0 : ae_okK (fun _ => (L : Int)) ae_k00 := by
      refine ⟨fun b hb => ?_, fun f hf => absurd hf List.not_mem_nil, fun d hd => absurd hd List.not_mem_nil⟩
      rw [List.mem_singleton.mp (show b ∈ ([(0, 0, 3072)] : ae_B) from hb)]
      exact ⟨(by decide : 0 < 1), by show (0 : Int) ≤ (L : Int); omega, by show (L : Int) ≤ 3072; omega⟩
    obtain ⟨ρ, u, sr⟩ := ae_ia_ok K0 hv hz'
    have ez : ak_z S = z := by unfold ak_z; rw [hz']; rfl
    have n1 : 1 ≤ z.1.1 := u.1
    have p0 : ρ 0 = (L : Int) := u.2.1 0 (by show 0 < 1; decide)
    have hd2 := Nat.le_of_ble_eq_true hD
    have kM := aq_mixhk kA kB
    refine hok ρ _ hs ρ ([(d, y1, 0, lv_args 0 (.ref 1 :: vs), [])], none) ([(d, y2, 0, lv_args 0 (.ref 219 :: vs), [])], none) hA hB ?_ (by rw [hW]; show 1 ≤ (ak_z S).1.1; rw [ez]; exact n1) (fun _ _ => rfl)
    show ab_sat (fun _ => True) L xs ρ ((ak_z S).1, [], [], [], T, ([(D, y1, 0, ae_ag2 0 ((2, 1, ae_num 0) :: (ak_z S).2), [])], none), ([(D, y2, 0, ae_ag2 0 ((2, 219, ae_num 0) :: (ak_z S).2), [])], none)) _ _ hA hB
    rw [ez]
    exact ⟨u.2.2, ⟨⟨(show 0 < z.1.1 by omega), by omega⟩, p0⟩, ad_hp_new kM (fun m hm => absurd hm List.not_mem_nil), ⟨⟨⟨by show D ≤ d; omega, rfl, rfl, ae_ag2_ok 0 ⟨rfl, sr⟩, trivial⟩, trivial⟩, fun e => by cases e⟩, ⟨⟨⟨by show D ≤ d; omega, rfl, rfl, ae_ag2_ok 0 ⟨rfl, sr⟩, trivial⟩, trivial⟩, fun e => by cases e⟩, aq_hs_of false kA, aq_hs_of true kB, trivial, ⟨_, hT1 _ I.2.1, ae_fr_rf _ _ _ _, fun m hm => absurd hm List.not_mem_nil⟩⟩
  · obtain ⟨k1, k2, ri, w1, w2, rfl, rfl, d1, d2, cm⟩ := q 0
    refine ⟨k1, k2, lw_T_mix hc fr I0.2.1 ri, ?_, Or.inr (fun j => ⟨nb 4 j (Or.inl rfl), nb 223 j (Or.inr rfl)⟩), w1, w2, rfl, rfl, d1, d2, cm⟩
    have a := aq_ci_fr fr h3
    have b := aq_ci_fr fr h9
    have c := I0.2.2.1
    rw [← aq_ciA k1.1.1 k2.1.1 (show Nat.blt 3 219 = true from rfl), ← aq_ciB k1.1.1 k2.1.1 (show Nat.blt 219 219 = false from rfl), a, b, c]
/-- what is known of the class's own end besides -/
theorem lw_Xand {mo : ae_Mo} {Q : Option Value → Option Value → List am_E → List am_E → Prop} {R : List am_E → Prop} {d y : Nat} {lw : am_L} {g2 : ap_cT} {hA hB : List am_E} (hX : ∀ n v e, am_go L xs n d y 0 lw [] hA = some (v, e) → R e) (q : ap_end mo L xs Q ([(d, y, 0, lw, [])], none) g2 hA hB) : ap_end mo L xs (fun v1 v2 e1 e2 => Q v1 v2 e1 e2 ∧ R e1) ([(d, y, 0, lw, [])], none) g2 hA hB := by
  obtain ⟨v1, e1, v2, e2, ⟨n1, g1⟩, q2, q3, q4, q5, q6⟩ := q
  exact ⟨v1, e1, v2, e2, ⟨n1, g1⟩, q2, q3, q4, q5, q6, hX n1 v1 e1 g1⟩
theorem lw_dP_own {hA hB : List am_E} (k1 : ae_hk false L xs hA) (k2 : ae_hk false L xs hB) (H : lw_dP L xs (am_mX2 ap_b false hA hB)) : lw_dP L xs hA :=
  lw_dP_eq (fun b hb p hp j => (ap_c (s := false) k1.1.1 k2.1.1 (by
    have hb : b ∈ ([(34, 39), (149, 154), (181, 186), (213, 218)] : List (Nat × Nat)) := hb
    simp only [List.mem_cons, List.not_mem_nil, or_false] at hb
    rcases hb with rfl | rfl | rfl | rfl <;> rcases hp with rfl | rfl <;> rfl)).symm) H
theorem lw_actP (hL : L ≤ 3072) {T TT : List ab_Ti} {W : ab_W} {S : List ae_Ag} {D y1 y2 kd : Nat} {cmp : Bool} {rk : ae_X} (hz : (ae_ia S ae_k00).isSome = true) (hD : Nat.ble D 640 = true) (hW : W.r = 1) (hs : ak_s D y1 y2 S T rk ∈ W.tms)
    (hok : ∀ r0 : Nat → Int, ∀ t ∈ W.tms, ab_ok W (fun _ => True) L xs (ak_Q T kd cmp L xs) r0 t) (hnb : (W.mo.all fun r => !(Nat.beq r.1 4) && !(Nat.beq r.1 223)) = true) (h3 : ae_inm W.mo 3 8 = false) (h9 : ae_inm W.mo 219 8 = false) (hT1 : ∀ f, ab_RI TT f → ab_RI T f) (hc : (TT.all fun t => ab_nw W.mo t || T.any (ab_qt t)) = true) (hX : ∀ (hA : List am_E) (vs : List Value) (d n : Nat) (v : Option Value) (e : List am_E), 640 ≤ d → ae_avs S vs → ae_hk false L xs hA → lw_dP L xs hA → am_go L xs n d y1 0 (lv_args 0 (.ref 1 :: vs)) [] hA = some (v, e) → lw_dP L xs e) : lw_PL (lw_I TT L xs) L xs S y1 y2 kd cmp := by
  have nb : ∀ p j, p = 4 ∨ p = 223 → ae_inm W.mo p j = false := fun p j hp => by
    cases hin : ae_inm W.mo p j with
    | false => rfl
    | true =>
      obtain ⟨t, ht, h3⟩ := List.any_eq_true.mp hin
      have h4 := List.all_eq_true.mp hnb t ht
      simp only [Bool.and_eq_true] at h3
      rw [Nat.eq_of_beq_eq_true h3.1.1] at h4
      rcases hp with rfl | rfl
      · exact absurd h4 (by decide)
      · exact absurd h4 (by decide)
  refine lw_two (Q := fun _ v1 v2 e1 e2 => ak_Q T kd cmp L xs v1 v2 e1 e2 ∧ lw_dP L xs e1) (mo := W.mo) hL (fun c hA hB vs d hd hv kA kB I => ?_) (fun hA hB v1 v2 e1 e2 I0 fr q => ?_) (fun hA hB v1 v2 e1 e2 I0 fr q k1 k2 => lw_dP_mix k1 k2 (q 0).2)
  · obtain ⟨z, hz'⟩ := Option.isSome_iff_exists.mp hz
    have K0 : ae_okK (fun _ => (L : Int)) ae_k00 := by
      refine ⟨fun b hb => ?_, fun f hf => absurd hf List.not_mem_nil, fun d hd => absurd hd List.not_mem_nil⟩
      rw [List.mem_singleton.mp (show b ∈ ([(0, 0, 3072)] : ae_B) from hb)]
      exact ⟨(by decide : 0 < 1), by show (0 : Int) ≤ (L : Int); omega, by show (L : Int) ≤ 3072; omega⟩
    obtain ⟨ρ, u, sr⟩ := ae_ia_ok K0 hv hz'
    have ez : ak_z S = z := by unfold ak_z; rw [hz']; rfl
    have n1 : 1 ≤ z.1.1 := u.1
    have p0 : ρ 0 = (L : Int) := u.2.1 0 (by show 0 < 1; decide)
    have hd2 := Nat.le_of_ble_eq_true hD
    have kM := aq_mixhk kA kB
    refine lw_Xand (fun n v e g => hX hA vs d n v e hd hv kA (lw_dP_own kA kB I.2.2.2.2) g) (hok ρ _ hs ρ ([(d, y1, 0, lv_args 0 (.ref 1 :: vs), [])], none) ([(d, y2, 0, lv_args 0 (.ref 219 :: vs), [])], none) hA hB ?_ (by rw [hW]; show 1 ≤ (ak_z S).1.1; rw [ez]; exact n1) (fun _ _ => rfl))
    show ab_sat (fun _ => True) L xs ρ ((ak_z S).1, [], [], [], T, ([(D, y1, 0, ae_ag2 0 ((2, 1, ae_num 0) :: (ak_z S).2), [])], none), ([(D, y2, 0, ae_ag2 0 ((2, 219, ae_num 0) :: (ak_z S).2), [])], none)) _ _ hA hB
    rw [ez]
    exact ⟨u.2.2, ⟨⟨(show 0 < z.1.1 by omega), by omega⟩, p0⟩, ad_hp_new kM (fun m hm => absurd hm List.not_mem_nil), ⟨⟨⟨by show D ≤ d; omega, rfl, rfl, ae_ag2_ok 0 ⟨rfl, sr⟩, trivial⟩, trivial⟩, fun e => by cases e⟩, ⟨⟨⟨by show D ≤ d; omega, rfl, rfl, ae_ag2_ok 0 ⟨rfl, sr⟩, trivial⟩, trivial⟩, fun e => by cases e⟩, aq_hs_of false kA, aq_hs_of true kB, trivial, ⟨_, hT1 _ I.2.1, ae_fr_rf _ _ _ _, fun m hm => absurd hm List.not_mem_nil⟩⟩
  · obtain ⟨k1, k2, ri, w1, w2, rfl, rfl, d1, d2, cm⟩ := (q 0).1
    refine ⟨k1, k2, lw_T_mix hc fr I0.2.1 ri, ?_, Or.inr (fun j => ⟨nb 4 j (Or.inl rfl), nb 223 j (Or.inr rfl)⟩), w1, w2, rfl, rfl, d1, d2, cm⟩
    have a := aq_ci_fr fr h3
    have b := aq_ci_fr fr h9
    have c := I0.2.2.1
    rw [← aq_ciA k1.1.1 k2.1.1 (show Nat.blt 3 219 = true from rfl), ← aq_ciB k1.1.1 k2.1.1 (show Nat.blt 219 219 = false from rfl), a, b, c]
end AKA

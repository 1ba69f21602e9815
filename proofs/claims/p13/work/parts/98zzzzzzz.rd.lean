/-! The days' readers: what the tape does, and stores that ties allow -/
noncomputable def rd_in (S : List (Nat × Nat)) (y p : Nat) : Bool := S.any fun q => Nat.beq q.1 y && Nat.beq q.2 p
noncomputable def rd_at (S : List (Nat × Nat)) (t : ap_T) : Bool := match t.1 with
  | f :: _ => rd_in S f.2.1 f.2.2.1
  | [] => false
noncomputable def rd_hf (wt : Nat → Nat → Bool) (S1 S2 : List (Nat × Nat)) (f1 f2 : Bool) (z : ab_St) : Bool := ac_hf wt f1 f2 z || (bif ac_wtt wt z.t1 then rd_at S2 z.t2 else rd_at S1 z.t1)
noncomputable def rd_hk (N : Int) (wt : Nat → Nat → Bool) (S1 S2 : List (Nat × Nat)) (R1 R2 : ae_Mo) (z : ab_St) : Option (List ab_St) :=
  bif ac_wtt wt z.t1 then (bif rd_at S2 z.t2 then ai_rss true R2 z else ac_hk N z) else (bif rd_at S1 z.t1 then ai_rss false R1 z else ac_hk N z)
section RDH
variable {L : Nat} {xs : Nat → Int32} {b : Nat → Option Value} {n T : Int} {P : Nat → Int} {Q : Option Value → Option Value → List am_E → List am_E → Prop}
theorem rd_HOK {N : Int} (hr : ae_rok = true) (hf : ae_fok = true) (hL : L ≤ 3072) (hN : n ≤ N) {W : ab_W} {wt : Nat → Nat → Bool} {S1 S2 : List (Nat × Nat)} {R1 R2 : ae_Mo} (hW : W.hk = rd_hk N wt S1 S2 R1 R2) (h1 : ae_sub2 ac_tmo W.mo = true) (h2 : ae_sub2 ac_zmo W.mo = true) (h3 : ae_sub2 R1 W.mo = true) (h4 : ae_sub2 R2 W.mo = true) (g3 : ac_gfr R1) (g4 : ac_gfr R2) : ab_HOK W (ac_G L xs b n T P) L xs Q := by
  intro z o ρ g1 g2 e1 e2 q S
  rw [hW] at q
  have on : ac_hk N z = some o → ∃ z' ∈ o, ∃ ρ' g1' g2' h1' h2', ae_up2 ρ z.k ρ' z'.k ∧ ab_sat (ac_G L xs b n T P) L xs ρ' z' g1' g2' h1' h2' ∧ (ap_end W.mo L xs Q g1' g2' h1' h2' → ap_end W.mo L xs Q g1 g2 e1 e2) := fun q =>
    ac_HOK (W := (W.1, W.2.1, W.2.2.1, W.2.2.2.1, ac_hk N, W.2.2.2.2.2)) hr hf hL hN rfl h1 h2 z o ρ g1 g2 e1 e2 q S
  unfold rd_hk at q
  cases c1 : ac_wtt wt z.t1 with
  | true =>
    rw [c1] at q
    cases c2 : rd_at S2 z.t2 with
    | true => rw [c2] at q; have q := (ai_rss_e _ _ _).symm.trans q; exact rb_ss_ok (Rr := 0) (r0 := fun _ => 0) hr hf (fun _ _ a f => ac_G_fr g4 a f) h4 z o ρ g1 g2 e1 e2 q S (Nat.zero_le _) (fun s h => absurd h (Nat.not_lt_zero s))
    | false => rw [c2] at q; exact on q
  | false =>
    rw [c1] at q
    cases c2 : rd_at S1 z.t1 with
    | true => rw [c2] at q; have q := (ai_rss_e _ _ _).symm.trans q; exact rb_ss_ok (Rr := 0) (r0 := fun _ => 0) hr hf (fun _ _ a f => ac_G_fr g3 a f) h3 z o ρ g1 g2 e1 e2 q S (Nat.zero_le _) (fun s h => absurd h (Nat.not_lt_zero s))
    | false => rw [c2] at q; exact on q
end RDH
noncomputable def rd_hq (wt : Nat → Nat → Bool) (S1 S2 : List (Nat × Nat)) : af_Hq := fun f1 f2 y1 p1 y2 p2 => af_hy wt f1 f2 y1 p1 y2 p2 || rd_in S1 y1 p1 || rd_in S2 y2 p2
theorem rd_hq_ok {W : ab_W} {wt : Nat → Nat → Bool} {S1 S2 : List (Nat × Nat)} (h : W.hf = rd_hf wt S1 S2) : af_hqok W (rd_hq wt S1 S2) := by
  intro f1 f2 z q
  rw [h] at q
  have at1 : ∀ {t1 t2 : ap_T}, rd_at S1 t1 = true → af_hq (rd_hq wt S1 S2) f1 f2 t1 t2 = true := by
    intro t1 t2 q
    obtain ⟨l1, v1⟩ := t1
    obtain ⟨l2, v2⟩ := t2
    cases l1 with
    | nil => cases q
    | cons g r =>
      obtain ⟨a1, b1, c1, d1, e1⟩ := g
      have q : rd_in S1 b1 c1 = true := q
      cases l2 with
      | nil => show (af_hy wt f1 f2 b1 c1 1000 0 || rd_in S1 b1 c1 || rd_in S2 1000 0) = true; rw [q, Bool.or_true, Bool.true_or]
      | cons g2 r2 =>
        obtain ⟨a2, b2, c2, d2, e2⟩ := g2
        show (af_hy wt f1 f2 b1 c1 b2 c2 || rd_in S1 b1 c1 || rd_in S2 b2 c2) = true
        rw [q, Bool.or_true, Bool.true_or]
  have at2 : ∀ {t1 t2 : ap_T}, rd_at S2 t2 = true → af_hq (rd_hq wt S1 S2) f1 f2 t1 t2 = true := by
    intro t1 t2 q
    obtain ⟨l1, v1⟩ := t1
    obtain ⟨l2, v2⟩ := t2
    cases l2 with
    | nil => cases q
    | cons g2 r2 =>
      obtain ⟨a2, b2, c2, d2, e2⟩ := g2
      have q : rd_in S2 b2 c2 = true := q
      cases l1 with
      | nil => show (af_hy wt f1 f2 1000 0 b2 c2 || rd_in S1 1000 0 || rd_in S2 b2 c2) = true; rw [q, Bool.or_true]
      | cons g r =>
        obtain ⟨a1, b1, c1, d1, e1⟩ := g
        show (af_hy wt f1 f2 b1 c1 b2 c2 || rd_in S1 b1 c1 || rd_in S2 b2 c2) = true
        rw [q, Bool.or_true]
  have hy : ∀ {t1 t2 : ap_T}, af_hq (af_hy wt) f1 f2 t1 t2 = true → af_hq (rd_hq wt S1 S2) f1 f2 t1 t2 = true := by
    intro t1 t2 q
    obtain ⟨l1, v1⟩ := t1
    obtain ⟨l2, v2⟩ := t2
    cases l1 with
    | nil =>
      cases l2 with
      | nil =>
        have q : af_hy wt f1 f2 1000 0 1000 0 = true := q
        show (af_hy wt f1 f2 1000 0 1000 0 || _ || _) = true
        rw [q, Bool.true_or, Bool.true_or]
      | cons g2 r2 =>
        obtain ⟨a2, b2, c2, d2, e2⟩ := g2
        have q : af_hy wt f1 f2 1000 0 b2 c2 = true := q
        show (af_hy wt f1 f2 1000 0 b2 c2 || _ || _) = true
        rw [q, Bool.true_or, Bool.true_or]
    | cons g r =>
      obtain ⟨a1, b1, c1, d1, e1⟩ := g
      cases l2 with
      | nil =>
        have q : af_hy wt f1 f2 b1 c1 1000 0 = true := q
        show (af_hy wt f1 f2 b1 c1 1000 0 || _ || _) = true
        rw [q, Bool.true_or, Bool.true_or]
      | cons g2 r2 =>
        obtain ⟨a2, b2, c2, d2, e2⟩ := g2
        have q : af_hy wt f1 f2 b1 c1 b2 c2 = true := q
        show (af_hy wt f1 f2 b1 c1 b2 c2 || _ || _) = true
        rw [q, Bool.true_or, Bool.true_or]
  rcases Bool.or_eq_true_iff.mp (show (ac_hf wt f1 f2 z || (bif ac_wtt wt z.t1 then rd_at S2 z.t2 else rd_at S1 z.t1)) = true from q) with q | q
  · exact hy (af_hy_ok (W := (W.1, W.2.1, W.2.2.1, ac_hf wt, W.2.2.2.2)) rfl f1 f2 z q)
  · cases c : ac_wtt wt z.t1 with
    | true => rw [c] at q; exact at2 q
    | false => rw [c] at q; exact at1 q

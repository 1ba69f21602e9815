/-! One thread alone, from a template to its ends -/
section ACA
variable {L : Nat} {xs : Nat → Int32} {r0 : Nat → Int} {h : List am_E}
theorem ac_self (s : Bool) (h : List am_E) : am_mX2 ap_b s h h = h := by cases s <;> exact am_mix_self ap_b h
theorem ac_sd2 (p : Nat) : am_sd ap_b false p = !(am_sd ap_b true p) := by rw [show true = !false from rfl, ap_sd_not, Bool.not_not]
theorem ac_hp0 (kh : ae_hk true L xs h) {k : ae_K} {M : List ae_M} (hM : ∀ m ∈ M, ae_eo k.1 r0 L xs h m) : ae_hp true k.1 r0 L xs M (am_mX2 ap_b false h h) := by
  rw [ac_self]
  have := ae_hp_add (A := M) (ae_hp_of (ρ := r0) k.1 kh) hM
  rwa [List.append_nil] at this
theorem ac_end1 (hf : ae_fok = true) {W : ap_W} {G : List am_E → Prop} {Q : Option Value → List am_E → Prop} {t : ap_Tm} {k : ae_K} {M : List ae_M} {ov : Option ae_V} (ht : t.st = (k, [], M, ([], ov), ([], none))) (hM : (M.all fun m => !m.2.2.2 && am_sd ap_b false m.1) = true)
    (hQ : ∀ ρ v e, (∀ s, s < W.r → ρ s = r0 s) → ae_okK ρ k → (∀ m ∈ M, ae_eo k.1 ρ L xs e m) → ae_ro k.1 ρ ov v → ae_hk true L xs e → Q v e) : ap_ok W G L xs (fun v1 _ e1 _ => ae_hk true L xs e1 ∧ Q v1 e1) r0 t := by
  intro ρ g1 g2 h1 h2 S _ a
  rw [ht] at S
  obtain ⟨S1, S2, S3, S4, S5, S6, S7, S8, S9⟩ := S
  obtain ⟨f1, v1⟩ := g1
  obtain ⟨f2, v2⟩ := g2
  have hM2 : ∀ m ∈ M, m.2.2.2 = false ∧ am_sd ap_b false m.1 = true := fun m hm => by
    have := List.all_eq_true.mp hM m hm
    rw [Bool.and_eq_true] at this
    exact ⟨by simpa using this.1, this.2⟩
  cases f1 with
  | cons _ _ => exact absurd S5.1 id
  | nil =>
    cases f2 with
    | cons _ _ => exact absurd S6.1 id
    | nil =>
      have hk1 := aq_own_hk false (aq_hk_sat hf S4 (fun m hm => (hM2 m hm).1)) S7 S8.1.1
      refine ⟨v1, h1, v2, h2, rfl, rfl, ap_sm_rf, ap_sm_rf, ae_fr_rf _ _ _ _, hk1, hQ ρ v1 h1 a S1 (fun m hm => ?_) (S5.2 rfl) hk1⟩
      obtain ⟨j, v, e1, e2, e3⟩ := S4.2.1 m hm
      exact ⟨j, v, e1, by rw [ap_c (s := false) S7.1.1 S8.1.1 (hM2 m hm).2] at e2; exact e2, e3⟩
theorem ac_end2 (hf : ae_fok = true) {W : ap_W} {G : List am_E → Prop} {Q : Option Value → List am_E → Prop} {t : ap_Tm} {k : ae_K} {M : List ae_M} {ov : Option ae_V} (ht : t.st = (k, [], M, ([], none), ([], ov))) (hM : (M.all fun m => !m.2.2.2 && am_sd ap_b true m.1) = true)
    (hQ : ∀ ρ v e, (∀ s, s < W.r → ρ s = r0 s) → ae_okK ρ k → (∀ m ∈ M, ae_eo k.1 ρ L xs e m) → ae_ro k.1 ρ ov v → ae_hk true L xs e → Q v e) : ap_ok W G L xs (fun _ v2 _ e2 => ae_hk true L xs e2 ∧ Q v2 e2) r0 t := by
  intro ρ g1 g2 h1 h2 S _ a
  rw [ht] at S
  obtain ⟨S1, S2, S3, S4, S5, S6, S7, S8, S9⟩ := S
  obtain ⟨f1, v1⟩ := g1
  obtain ⟨f2, v2⟩ := g2
  have hM2 : ∀ m ∈ M, m.2.2.2 = false ∧ am_sd ap_b true m.1 = true := fun m hm => by
    have := List.all_eq_true.mp hM m hm
    rw [Bool.and_eq_true] at this
    exact ⟨by simpa using this.1, this.2⟩
  cases f1 with
  | cons _ _ => exact absurd S5.1 id
  | nil =>
    cases f2 with
    | cons _ _ => exact absurd S6.1 id
    | nil =>
      have hk2 : ae_hk true L xs h2 := aq_own_hk true (by rw [ap_mX_not]; exact aq_hk_sat hf S4 (fun m hm => (hM2 m hm).1)) S8 S7.1.1
      refine ⟨v1, h1, v2, h2, rfl, rfl, ap_sm_rf, ap_sm_rf, ae_fr_rf _ _ _ _, hk2, hQ ρ v2 h2 a S1 (fun m hm => ?_) (S6.2 rfl) hk2⟩
      obtain ⟨j, v, e1, e2, e3⟩ := S4.2.1 m hm
      refine ⟨j, v, e1, ?_, e3⟩
      have hs : am_sd ap_b false m.1 = false := by rw [ac_sd2, (hM2 m hm).2]; rfl
      rw [ap_cx (s := false) S7.1.1 S8.1.1 hs] at e2
      exact e2
theorem ac_go1 (hr : ae_rok = true) (hf : ae_fok = true) (hL : L ≤ 3072) {W : ap_W} {Q : Option Value → List am_E → Prop} (hc : W.p.cts = []) (hk : W.hk = fun _ => none) {s : ap_Tm} (hs : s ∈ W.tms)
    (hT : ∀ t ∈ W.tms, (∃ n f1 f2, ap_chk W n f1 f2 t = true) ∨ ap_ok W (fun _ => True) L xs (fun v1 _ e1 _ => ae_hk true L xs e1 ∧ Q v1 e1) r0 t)
    {k : ae_K} {M : List ae_M} {dd y pc : Nat} {lv : ae_L} {st : List ae_V} (es : s.st = (k, [], M, ([(dd, y, pc, lv, st)], none), ([], none))) (hR : W.r ≤ k.1)
    (kh : ae_hk true L xs h) {d : Nat} {lw : am_L} {sw : List Value} (hd : dd ≤ d) (K : ae_okK r0 k) (K0 : ae_k0 r0 L k) (hM : ∀ m ∈ M, ae_eo k.1 r0 L xs h m) (hl : ae_lr k.1 r0 lv lw) (hst : ae_sr k.1 r0 st sw) :
    ∃ n v e, am_go L xs n d y pc lw sw h = some (v, e) ∧ ap_sm L xs false h e ∧ ae_fr W.p.mo L xs h e ∧ ae_hk true L xs e ∧ Q v e := by
  have key := ap_all hr hf hL (fun c h => by rw [hc] at h; exact absurd h List.not_mem_nil) (fun _ _ _ _ => trivial) (fun z o ρ g1 g2 h1 h2 q => by rw [hk] at q; cases q) hT s hs
  obtain ⟨v1, e1, v2, e2, q1, q2, q3, q4, q5, q6, q7⟩ := key r0 ([(d, y, pc, lw, sw)], none) ([], none) h h (by
    rw [es]
    exact ⟨K, K0, fun c hc => absurd hc List.not_mem_nil, ac_hp0 kh hM, ⟨⟨⟨hd, rfl, rfl, hl, hst⟩, trivial⟩, fun e => by cases e⟩, ⟨trivial, fun _ => rfl⟩, aq_hs_of false kh, aq_hs_of true kh, trivial⟩) (by rw [es]; exact hR) (fun _ _ => rfl)
  obtain ⟨n, q1⟩ := q1
  have q2 : (v2, e2) = (none, h) := q2
  injection q2 with q2a q2b
  subst q2b
  refine ⟨n, v1, e1, q1, q3, fun p j hp => ?_, q6, q7⟩
  cases hs : am_sd ap_b false p with
  | false => exact q3 p j hs
  | true =>
    have := q5 p j hp
    rw [ac_self, ap_c (s := false) q6.1.1 kh.1.1 hs] at this
    exact this
theorem ac_go2 (hr : ae_rok = true) (hf : ae_fok = true) (hL : L ≤ 3072) {W : ap_W} {Q : Option Value → List am_E → Prop} (hc : W.p.cts = []) (hk : W.hk = fun _ => none) {s : ap_Tm} (hs : s ∈ W.tms)
    (hT : ∀ t ∈ W.tms, (∃ n f1 f2, ap_chk W n f1 f2 t = true) ∨ ap_ok W (fun _ => True) L xs (fun _ v2 _ e2 => ae_hk true L xs e2 ∧ Q v2 e2) r0 t)
    {k : ae_K} {M : List ae_M} {dd y pc : Nat} {lv : ae_L} {st : List ae_V} (es : s.st = (k, [], M, ([], none), ([(dd, y, pc, lv, st)], none))) (hR : W.r ≤ k.1)
    (kh : ae_hk true L xs h) {d : Nat} {lw : am_L} {sw : List Value} (hd : dd ≤ d) (K : ae_okK r0 k) (K0 : ae_k0 r0 L k) (hM : ∀ m ∈ M, ae_eo k.1 r0 L xs h m) (hl : ae_lr k.1 r0 lv lw) (hst : ae_sr k.1 r0 st sw) :
    ∃ n v e, am_go L xs n d y pc lw sw h = some (v, e) ∧ ap_sm L xs true h e ∧ ae_fr W.p.mo L xs h e ∧ ae_hk true L xs e ∧ Q v e := by
  have key := ap_all hr hf hL (fun c h => by rw [hc] at h; exact absurd h List.not_mem_nil) (fun _ _ _ _ => trivial) (fun z o ρ g1 g2 h1 h2 q => by rw [hk] at q; cases q) hT s hs
  obtain ⟨v1, e1, v2, e2, q1, q2, q3, q4, q5, q6, q7⟩ := key r0 ([], none) ([(d, y, pc, lw, sw)], none) h h (by
    rw [es]
    exact ⟨K, K0, fun c hc => absurd hc List.not_mem_nil, ac_hp0 kh hM, ⟨trivial, fun _ => rfl⟩, ⟨⟨⟨hd, rfl, rfl, hl, hst⟩, trivial⟩, fun e => by cases e⟩, aq_hs_of false kh, aq_hs_of true kh, trivial⟩) (by rw [es]; exact hR) (fun _ _ => rfl)
  obtain ⟨n, q2⟩ := q2
  have q1 : (v1, e1) = (none, h) := q1
  injection q1 with q1a q1b
  subst q1b
  refine ⟨n, v2, e2, q2, q4, fun p j hp => ?_, q6, q7⟩
  cases hs : am_sd ap_b true p with
  | false => exact q4 p j hs
  | true =>
    have := q5 p j hp
    rw [ac_self, ap_cx (s := false) kh.1.1 q6.1.1 (by rw [ac_sd2, hs]; rfl)] at this
    exact this
end ACA

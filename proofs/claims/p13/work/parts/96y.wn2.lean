/-! One round of it, from a place to the next -/
noncomputable def aq_fr1 (pc : Nat) (e2 e3 e4 e5 : ae_X) (st : List ae_V) : ap_T := ([(2, 56, pc, aq_lv (0, [(1, 1)]) e2 e3 e4 e5, st)], none)
noncomputable def aq_w0 (c e : Nat) (tms : List ap_Tm) : ap_W := ⟨⟨[], [], []⟩, fun y pc => Nat.beq y 56 && (Nat.beq pc c || Nat.beq pc e), fun _ _ => false, fun _ _ _ => false, fun _ => none, tms, fun _ => none, 10⟩
section AQX
variable {L : Nat} {xs : Nat → Int32} {h0 : List am_E} {Q : Option Value → Option Value → List am_E → List am_E → Prop} {r0 : Nat → Int}
theorem aq_ev10 {ρ : Nat → Int} (a : ∀ s, s < 10 → ρ s = r0 s) {e : ae_X} (w : ae_wb 10 e.2 = true) : ae_ev ρ e = ae_ev r0 e := (ae_ev_ag (fun s hs => (a s hs)) (ae_wb_ok w))
theorem aq_ok2 (hr : ae_rok = true) (hf : ae_fok = true) (hL : L ≤ 3072) {s t : ap_Tm} {c e n : Nat} (q : ap_chk (aq_w0 c e [s, t]) n true false s = true) (hT : ap_ok (aq_w0 c e [s, t]) (aq_G L xs h0) L xs Q r0 t) : ap_ok (aq_w0 c e [s, t]) (aq_G L xs h0) L xs Q r0 s := by
  refine ap_all hr hf hL (fun c h => absurd h List.not_mem_nil) (fun h h' g f => aq_G_fr rfl g f) (fun z o ρ g1 g2 h1 h2 h => by cases h) (fun t' ht => ?_) s List.mem_cons_self
  rcases List.mem_cons.mp ht with rfl | ht
  · exact Or.inl ⟨n, true, false, q⟩
  · rw [List.mem_singleton.mp ht]; exact Or.inr hT
/-- from a place in the loop to another -/
theorem aq_go1 (hr : ae_rok = true) (hf : ae_fok = true) (hL : L ≤ 3072) {s t : ap_Tm} {c e n pcs pct : Nat} (q : ap_chk (aq_w0 c e [s, t]) n true false s = true)
    {ks kt : ae_K} {ms mt : List ae_M} {c2 c3 c4 c5 e2 e3 e4 e5 : ae_X} {ss tt : List ae_V} (hs : s.st = ⟨ks, [], ms, aq_fr1 pcs c2 c3 c4 c5 ss, ([], none)⟩) (ht : t.st = ⟨kt, [], mt, aq_fr1 pct e2 e3 e4 e5 tt, ([], none)⟩) (hks : ks.1 = 10) (hkt : kt.1 = 10)
    (hmt : ∀ m ∈ mt, m.2.2.2 = false) (hw : (ae_wb 10 e2.2 && ae_wb 10 e3.2 && ae_wb 10 e4.2 && ae_wb 10 e5.2 && ae_wb 10 c2.2 && ae_wb 10 c3.2 && ae_wb 10 c4.2 && ae_wb 10 c5.2) = true)
    {d : Nat} {lw : am_L} {sw : List Value} {h1 h2 : List am_E} (hd : 2 ≤ d) (C : aq_cf L xs h0 h1 h2) (hK : ae_okK r0 ks) (hk0 : L < 2147483648 ∧ r0 0 = (L : Int)) (hms : ∀ m ∈ ms, ae_eo 10 r0 L xs h0 m) (hlo : aq_lo lw (r0 1) (ae_ev r0 c2) (ae_ev r0 c3) (ae_ev r0 c4) (ae_ev r0 c5)) (hsw : ae_sr 10 r0 ss sw)
    (K : ∀ d' lw' sw' h1' h2', 2 ≤ d' → aq_cf L xs h0 h1' h2' → aq_lo lw' (r0 1) (ae_ev r0 e2) (ae_ev r0 e3) (ae_ev r0 e4) (ae_ev r0 e5) → (tt = [] → sw' = []) → ap_end [] L xs Q ([(d', 56, pct, lw', sw')], none) ([], none) h1' h2') :
    ap_end [] L xs Q ([(d, 56, pcs, lw, sw)], none) ([], none) h1 h2 := by
  simp only [Bool.and_eq_true] at hw
  obtain ⟨⟨⟨⟨⟨⟨⟨w1, w2⟩, w3⟩, w4⟩, w5⟩, w6⟩, w7⟩, w8⟩ := hw
  have key := aq_ok2 (Q := Q) (r0 := r0) (xs := xs) (h0 := h0) hr hf hL q (fun ρ g1 g2 h1' h2' S _ a => ?_)
  · have hS : ap_sat (aq_G L xs h0) L xs r0 s.st ([(d, 56, pcs, lw, sw)], none) ([], none) h1 h2 := by
      rw [hs]
      refine aq_in C hK ⟨⟨by show 0 < ks.1; omega, hk0.1⟩, hk0.2⟩ rfl (by show ∀ m ∈ ms, ae_eo ks.1 r0 L xs h0 m; rw [hks]; exact hms) ⟨⟨⟨hd, rfl, rfl, ?_, ?_⟩, trivial⟩, fun e => by cases e⟩ ⟨trivial, fun _ => rfl⟩
      · show ae_lr ks.1 r0 (aq_lv (0, [(1, 1)]) c2 c3 c4 c5) lw
        rw [hks]
        refine aq_lo_lr hlo ⟨⟨by decide, trivial⟩, ?_⟩ ⟨ae_wb_ok w5, rfl⟩ ⟨ae_wb_ok w6, rfl⟩ ⟨ae_wb_ok w7, rfl⟩ ⟨ae_wb_ok w8, rfl⟩
        show (0 : Int) + (1 * r0 1 + 0) = r0 1
        omega
      · show ae_sr ks.1 r0 ss sw
        rw [hks]; exact hsw
    exact key r0 _ _ h1 h2 hS (by rw [hs]; show 10 ≤ ks.1; omega) (fun _ _ => rfl)
  · rw [ht] at S
    have C' := aq_out hf S hmt
    obtain ⟨-, -, -, -, T1, T2, -, -, -⟩ := S
    obtain ⟨f1, v1⟩ := g1
    obtain ⟨f2, v2⟩ := g2
    have T1 : ap_ff kt.1 ρ [(2, 56, pct, aq_lv (0, [(1, 1)]) e2 e3 e4 e5, tt)] f1 := T1.1
    have T2a : ap_ff kt.1 ρ [] f2 := T2.1
    have T2b : ae_ro kt.1 ρ none v2 := T2.2 rfl
    cases f2 with
    | cons _ _ => exact absurd T2a id
    | nil =>
      have T2b : v2 = none := T2b
      subst T2b
      match f1, T1 with
      | [(d', y', pc', lw', sw')], T1 =>
        obtain ⟨⟨a1, a2, a3, a4, a5⟩, -⟩ := T1
        have a2 : 56 = y' := a2
        have a3 : pct = pc' := a3
        subst a2; subst a3
        rw [hkt] at a4 a5
        have lo := aq_lr_lo (show ae_lr 10 ρ (aq_lv (0, [(1, 1)]) e2 e3 e4 e5) lw' from a4)
        have b1 : ae_ev ρ (0, [(1, 1)]) = r0 1 := by
          show (0 : Int) + (1 * ρ 1 + 0) = r0 1
          rw [a 1 (by show 1 < 10; decide)]; omega
        rw [b1, aq_ev10 a w1, aq_ev10 a w2, aq_ev10 a w3, aq_ev10 a w4] at lo
        have fin := K d' lw' sw' h1' h2' a1 C' lo (fun e => by
          rw [e] at a5
          cases sw' with
          | nil => rfl
          | cons _ _ => exact absurd a5 id)
        obtain ⟨z1, z2, z3, z4, z5⟩ := fin
        exact ⟨z1, z2, z3, z4, z5⟩
      | [], T1 => exact absurd T1 id
      | _ :: _ :: _, T1 => exact absurd T1.2 id
end AQX

/-! Pairs of calls that are known: both stand at the beginning of their methods; the callers' frames are laid aside meanwhile -/
noncomputable def ab_pe (G : List am_E → Prop) (L : Nat) (xs : Nat → Int32) (R : Nat) (r0 : Nat → Int) (es : List ab_Tm) (v1 v2 : Option Value) (e1 e2 : List am_E) : Prop := ∃ e ∈ es, ∃ ρ, (∀ s, s < R → ρ s = r0 s) ∧ ab_sat G L xs ρ e.st ([], v1) ([], v2) e1 e2
/-- the end's symbols stand behind those that are there -/
noncomputable def ab_gs (n R s : Nat) : Nat := bif Nat.blt s R then s else n + (s - R)
noncomputable def ab_gt (n R : Nat) (l : ae_T) : ae_T := l.map fun t => (ab_gs n R t.1, t.2)
noncomputable def ab_gx (n R : Nat) (e : ae_X) : ae_X := (e.1, ab_gt n R e.2)
noncomputable def ab_gv (n R : Nat) (v : ae_V) : ae_V := (v.1, v.2.1, ab_gx n R v.2.2)
noncomputable def ab_gme (n R : Nat) (m : ae_M) : ae_M := (m.1, ab_gx n R m.2.1, ab_gv n R m.2.2.1, false)
noncomputable def ab_gb (n R : Nat) (B : ae_B) : ae_B := (B.filter fun b => !(Nat.blt b.1 R)).map fun b => (ab_gs n R b.1, b.2)
noncomputable def ab_gk (R : Nat) (k e : ae_K) : ae_K := (k.1 + (e.1 - R), ab_gb k.1 R e.2.1 ++ k.2.1, k.2.2.1, k.2.2.2)
noncomputable def ab_gr (ρ ρE : Nat → Int) (n R : Nat) (s : Nat) : Int := bif Nat.blt s n then ρ s else ρE (s - n + R)
section ABP
variable {ρ ρE : Nat → Int} {n R m : Nat}
theorem ab_gs_lt (hR : R ≤ n) (hm : R ≤ m) {s : Nat} (h : s < m) : ab_gs n R s < n + (m - R) := by
  unfold ab_gs
  cases hb : Nat.blt s R with
  | true => have := Nat.blt_eq.mp hb; show s < _; omega
  | false =>
    have : ¬ s < R := fun q => by rw [Nat.blt_eq.mpr q] at hb; cases hb
    show n + (s - R) < _
    omega
theorem ab_gr_at (hR : R ≤ n) (e : ∀ s, s < R → ρ s = ρE s) (s : Nat) : ab_gr ρ ρE n R (ab_gs n R s) = ρE s := by
  unfold ab_gs
  cases hb : Nat.blt s R with
  | true =>
    have := Nat.blt_eq.mp hb
    show (bif Nat.blt s n then ρ s else ρE (s - n + R)) = ρE s
    rw [Nat.blt_eq.mpr (by omega)]
    exact e s this
  | false =>
    have h1 : ¬ s < R := fun q => by rw [Nat.blt_eq.mpr q] at hb; cases hb
    have h2 : Nat.blt (n + (s - R)) n = false := by
      cases hc : Nat.blt (n + (s - R)) n with
      | false => rfl
      | true => have := Nat.blt_eq.mp hc; omega
    show (bif Nat.blt (n + (s - R)) n then ρ (n + (s - R)) else ρE (n + (s - R) - n + R)) = ρE s
    rw [h2]
    show ρE (n + (s - R) - n + R) = ρE s
    rw [show n + (s - R) - n + R = s by omega]
theorem ab_gr_ag : ae_ag n ρ (ab_gr ρ ρE n R) := fun s hs => by
  unfold ab_gr
  rw [Nat.blt_eq.mpr hs]
  rfl
theorem ab_gt_ok (hR : R ≤ n) (hm : R ≤ m) (e : ∀ s, s < R → ρ s = ρE s) : ∀ {l : ae_T}, ae_wt m l → ae_wt (n + (m - R)) (ab_gt n R l) ∧ ae_et (ab_gr ρ ρE n R) (ab_gt n R l) = ae_et ρE l
  | [], _ => ⟨trivial, rfl⟩
  | t :: r, w => by
    obtain ⟨i1, i2⟩ := ab_gt_ok hR hm e (l := r) w.2
    refine ⟨⟨ab_gs_lt hR hm w.1, i1⟩, ?_⟩
    show t.2 * ab_gr ρ ρE n R (ab_gs n R t.1) + ae_et (ab_gr ρ ρE n R) (ab_gt n R r) = t.2 * ρE t.1 + ae_et ρE r
    rw [ab_gr_at hR e, i2]
theorem ab_gx_dn (hR : R ≤ n) (hm : R ≤ m) (e : ∀ s, s < R → ρ s = ρE s) {x : ae_X} {v : Int} (d : ae_dn m ρE x v) : ae_dn (n + (m - R)) (ab_gr ρ ρE n R) (ab_gx n R x) v := by
  obtain ⟨w1, w2⟩ := ab_gt_ok hR hm e d.1
  refine ⟨w1, ?_⟩
  have d2 : x.1 + ae_et ρE x.2 = v := d.2
  show x.1 + ae_et (ab_gr ρ ρE n R) (ab_gt n R x.2) = v
  rw [w2]
  exact d2
theorem ab_gv_ok (hR : R ≤ n) (hm : R ≤ m) (e : ∀ s, s < R → ρ s = ρE s) {a : ae_V} {v : Value} (h : ae_ok m ρE a v) : ae_ok (n + (m - R)) (ab_gr ρ ρE n R) (ab_gv n R a) v := by
  obtain ⟨t, q, x⟩ := a
  unfold ab_gv
  unfold ae_ok at h ⊢
  match t, h with
  | 0, h => obtain ⟨y, h1, h2⟩ := h; exact ⟨y, h1, ab_gx_dn hR hm e h2⟩
  | 1, h => obtain ⟨y, h1, h2⟩ := h; exact ⟨y, h1, ab_gx_dn hR hm e h2⟩
  | 2, h => exact h
  | 3, h => exact h
  | 4, h => obtain ⟨y, h1, h2⟩ := h; exact ⟨y, ab_gx_dn hR hm e h1, h2⟩
  | t + 5, h => exact absurd h id
theorem ab_gro_ok (hR : R ≤ n) (hm : R ≤ m) (e : ∀ s, s < R → ρ s = ρE s) {a : Option ae_V} {r : Option Value} (h : ae_ro m ρE a r) : ae_ro (n + (m - R)) (ab_gr ρ ρE n R) (a.map (ab_gv n R)) r := by
  cases a with
  | none => exact h
  | some a => obtain ⟨w, h1, h2⟩ := h; exact ⟨w, h1, ab_gv_ok hR hm e h2⟩
theorem ab_gk_ok {k kE : ae_K} (hR : R ≤ k.1) (hm : R ≤ kE.1) (e : ∀ s, s < R → ρ s = ρE s) (K : ae_okK ρ k) (KE : ae_okK ρE kE) : ae_okK (ab_gr ρ ρE k.1 R) (ab_gk R k kE) := by
  have K2 := ae_okK_ext K (ab_gr_ag (ρE := ρE) (R := R))
  have le : k.1 ≤ k.1 + (kE.1 - R) := Nat.le_add_right _ _
  refine ⟨fun q hq => ?_, fun f hf => ⟨ae_wt_le le (K2.2.1 f hf).1, (K2.2.1 f hf).2⟩, fun d hd => ⟨ae_wt_le le (K2.2.2 d hd).1, Nat.lt_of_lt_of_le (K2.2.2 d hd).2.1 le, (K2.2.2 d hd).2.2⟩⟩
  rcases List.mem_append.mp hq with hq | hq
  · obtain ⟨b, hb, rfl⟩ := List.mem_map.mp hq
    have h1 := KE.1 b (List.mem_filter.mp hb).1
    refine ⟨ab_gs_lt hR hm h1.1, ?_⟩
    show b.2.1 ≤ ab_gr ρ ρE k.1 R (ab_gs k.1 R b.1) ∧ ab_gr ρ ρE k.1 R (ab_gs k.1 R b.1) ≤ b.2.2
    rw [ab_gr_at hR e]
    exact h1.2
  · exact ⟨Nat.lt_of_lt_of_le (K2.1 q hq).1 le, (K2.1 q hq).2⟩
end ABP
noncomputable def am_pp (v : Option Value) (cs : List am_Fr) : ap_cT := match cs with
  | [] => ([], v)
  | c :: r => (am_psh v c :: r, none)
theorem am_pp_run {L : Nat} {xs : Nat → Int32} {c : am_Fr} {cs : List am_Fr} {gv v : Option Value} {h e : List am_E} {x : Option Value × List am_E} (p : ap_run L xs ([c], none) h (v, e)) (g : ap_run L xs (am_pp v cs) e x) : ap_run L xs (c :: cs, gv) h x := by
  obtain ⟨n, p⟩ := p
  cases cs with
  | nil =>
    have g : x = (v, e) := g
    subst g
    exact ⟨n, p⟩
  | cons d r => exact ⟨n, v, e, p, g⟩
theorem am_pp_tt {n : Nat} {ρ : Nat → Int} {a : Option ae_V} {v : Option Value} {fs : List ap_F} {cs : List am_Fr} (F : ap_ff n ρ fs cs) (h : ae_ro n ρ a v) : ap_tt n ρ (ap_pop a fs) (am_pp v cs) := by
  cases fs with
  | nil =>
    cases cs with
    | nil => exact ⟨trivial, fun _ => h⟩
    | cons _ _ => exact absurd F id
  | cons f r =>
    cases cs with
    | nil => exact absurd F id
    | cons c s =>
      refine ⟨⟨⟨F.1.1, F.1.2.1, F.1.2.2.1, F.1.2.2.2.1, ?_⟩, F.2⟩, fun e => by cases e⟩
      have hre := F.1.2.2.2.2
      cases a with
      | none =>
        have h : v = none := h
        subst h
        exact hre
      | some a =>
        obtain ⟨w, rfl, hw⟩ := h
        exact ⟨hw, hre⟩
noncomputable def ab_pz (R : Nat) (e : ab_Tm) : Bool := ab_nl e.st.t1.1 && ab_nl e.st.t2.1 && ab_nl e.st.w && Nat.ble R e.st.k.1 && e.st.m.all (fun m => !m.2.2.2)
/-- an end of a pair of calls -/
theorem ab_pe_ok {W : ab_W} {G : List am_E → Prop} {L : Nat} {xs : Nat → Int32} {r0 : Nat → Int} {es : List ab_Tm} {e : ab_Tm} (he : e ∈ es) (h1 : ab_nl e.st.t1.1 = true) (h2 : ab_nl e.st.t2.1 = true) : ab_ok W G L xs (ab_pe G L xs W.r r0 es) r0 e := by
  intro ρ g1 g2 e1 e2 S _ sr
  obtain ⟨f1, v1⟩ := g1
  obtain ⟨f2, v2⟩ := g2
  have T1 := S.2.2.2.1.1
  have T2 := S.2.2.2.2.1.1
  rw [ab_nl_ok h1] at T1
  rw [ab_nl_ok h2] at T2
  cases f1 with
  | cons _ _ => exact absurd T1 id
  | nil =>
    cases f2 with
    | cons _ _ => exact absurd T2 id
    | nil => exact ⟨v1, e1, v2, e2, rfl, rfl, ap_sm_rf, ap_sm_rf, ae_fr_rf _ _ _ _, e, he, ρ, sr, S⟩

/-! Blocks one in another: a block within a block ends no later; no four of them -/
noncomputable def dn_N (f : Nat → Nat → Int) : Prop := ∀ q a : Nat, q < a → a < 30 → (a : Int) < f 34 5 → (a : Int) < f 39 q → f 39 a ≤ f 39 q
noncomputable def dn_D (f : Nat → Nat → Int) : Prop := ∀ q1 q2 q3 q4 : Nat, q1 < q2 → q2 < q3 → q3 < q4 → q4 < 30 → (q4 : Int) < f 34 5 → (q2 : Int) < f 39 q1 → (q3 : Int) < f 39 q2 → (q4 : Int) < f 39 q3 → f 39 q4 ≤ (q4 : Int) + 1
noncomputable def dn_P (L : Nat) (xs : Nat → Int32) (h : List am_E) : Prop := dn_N (ab_cv L xs h) ∧ dn_D (ab_cv L xs h)
noncomputable def dn_out (mo : ae_Mo) : Bool := ab_np mo 39 0 29 && ab_np mo 34 5 5
theorem dn_fr {L : Nat} {xs : Nat → Int32} {mo : ae_Mo} (q : dn_out mo = true) {h h' : List am_E} (H : dn_P L xs h) (f : ae_fr mo L xs h h') : dn_P L xs h' := by
  unfold dn_out at q
  rw [Bool.and_eq_true] at q
  have e5 : ab_cv L xs h' 34 5 = ab_cv L xs h 34 5 := ab_cv_fr f (ab_np_ok (Nat.le_refl 5) (Nat.le_refl 5) q.2)
  have e : ∀ j, j < 30 → ab_cv L xs h' 39 j = ab_cv L xs h 39 j := fun j hj => ab_cv_fr f (ab_np_ok (Nat.zero_le j) (by omega) q.1)
  refine ⟨fun q a h1 h2 h3 h4 => ?_, fun q1 q2 q3 q4 h1 h2 h3 h4 h5 h6 h7 h8 => ?_⟩
  · rw [e5] at h3
    rw [e q (by omega)] at h4 ⊢
    rw [e a h2]
    exact H.1 q a h1 h2 h3 h4
  · rw [e5] at h5
    rw [e q1 (by omega)] at h6
    rw [e q2 (by omega)] at h7
    rw [e q3 (by omega)] at h8
    rw [e q4 h4]
    exact H.2 q1 q2 q3 q4 h1 h2 h3 h4 h5 h6 h7 h8
/-- the number of a step that a cell is looked at for -/
noncomputable def bn_c (z : ab_St) (x : ae_X) : Option ae_X := bif ae_wb z.k.1 x.2 && ae_rg z.k x 0 29 then ab_ov z.k z.m 39 x else none
noncomputable def bn_1 (xq xa : bh_X) : bh_H := fun z => (xq z).bind fun x => (xa z).bind fun y => (bn_c z x).bind fun c1 => (bn_c z y).bind fun c2 => (ab_ov z.k z.m 34 (ae_num 5)).bind fun s =>
  bif ae_z z.k (ae_pls (ae_sub x y) 1) && ae_z z.k (ae_pls (ae_sub y c1) 1) && ae_z z.k (ae_pls (ae_sub y s) 1) then some (bh_ks z (ae_as z.k (ae_sub c2 c1))) else none
noncomputable def bn_3 (x1 x2 x3 x4 : bh_X) : bh_H := fun z => (x1 z).bind fun a => (x2 z).bind fun b => (x3 z).bind fun c => (x4 z).bind fun d => (bn_c z a).bind fun ca => (bn_c z b).bind fun cb => (bn_c z c).bind fun cc => (bn_c z d).bind fun cd => (ab_ov z.k z.m 34 (ae_num 5)).bind fun s =>
  bif ae_z z.k (ae_pls (ae_sub a b) 1) && ae_z z.k (ae_pls (ae_sub b c) 1) && ae_z z.k (ae_pls (ae_sub c d) 1) && ae_z z.k (ae_pls (ae_sub b ca) 1) && ae_z z.k (ae_pls (ae_sub c cb) 1) && ae_z z.k (ae_pls (ae_sub d cc) 1) && ae_z z.k (ae_pls (ae_sub d s) 1) && ae_z z.k (ae_pls (ae_sub d cd) 2) then some [] else none
section BNA
variable {mo : ae_Mo} {G : (Nat → Int) → List am_E → Prop} {L : Nat} {xs : Nat → Int32} {Q : Option Value → Option Value → List am_E → List am_E → Prop} {R : Nat} {r0 : Nat → Int}
theorem bn_c_ok {ρ : Nat → Int} {z : ab_St} {h : List am_E} (K : ae_okK ρ z.k) (hM : ∀ m ∈ z.m, ae_eo z.k.1 ρ L xs h m) {x c : ae_X} (q : bn_c z x = some c) : ∃ j : Nat, j < 30 ∧ ae_dn z.k.1 ρ x (j : Int) ∧ ae_dn z.k.1 ρ c (ab_cv L xs h 39 j) := by
  obtain ⟨hb, q⟩ := ae_bif q
  rw [Bool.and_eq_true] at hb
  have g := ae_rg_ok K hb.2
  have d : ae_dn z.k.1 ρ x (((ae_ev ρ x).toNat : Nat) : Int) := ⟨ae_wb_ok hb.1, by omega⟩
  exact ⟨(ae_ev ρ x).toNat, by omega, d, ab_ov_ok K hM d q⟩
theorem bn_lt {ρ : Nat → Int} {k : ae_K} (K : ae_okK ρ k) {x y : ae_X} {a b c : Int} (hx : ae_dn k.1 ρ x a) (hy : ae_dn k.1 ρ y b) (q : ae_z k (ae_pls (ae_sub x y) c) = true) : a + c ≤ b := by
  have h := ae_z_ok K q
  rw [(ae_pls_dn (ae_sub_dn hx hy) c).2] at h
  omega
theorem bn_1_ok (hG : ∀ h, G r0 h → dn_P L xs h) {xq xa : bh_X} : bh_ok mo (G r0) L xs Q R r0 (bn_1 xq xa) := fun z o ρ g1 g2 h1 h2 q S _ _ => by
  obtain ⟨x, -, q⟩ := Option.bind_eq_some_iff.mp q
  obtain ⟨y, -, q⟩ := Option.bind_eq_some_iff.mp q
  obtain ⟨c1, q1, q⟩ := Option.bind_eq_some_iff.mp q
  obtain ⟨c2, q2, q⟩ := Option.bind_eq_some_iff.mp q
  obtain ⟨s, q3, q⟩ := Option.bind_eq_some_iff.mp q
  obtain ⟨hb, q⟩ := ae_bif q
  cases q
  simp only [Bool.and_eq_true] at hb
  have S' := S
  obtain ⟨S1, S2, S4, S5, S6, S7, S8, S9, S10⟩ := S'
  obtain ⟨i, i1, i2, i3⟩ := bn_c_ok S1 S4.2.1 q1
  obtain ⟨j, j1, j2, j3⟩ := bn_c_ok S1 S4.2.1 q2
  have s2 : ae_dn z.k.1 ρ s (ab_cv L xs (am_mX2 ap_b false h1 h2) 34 5) := ab_ov_ok S1 S4.2.1 (ae_num_dn (5 : Int) : ae_dn z.k.1 ρ (ae_num 5) ((5 : Nat) : Int)) q3
  have l1 := bn_lt S1 i2 j2 hb.1.1
  have l2 := bn_lt S1 j2 i3 hb.1.2
  have l3 := bn_lt S1 j2 s2 hb.2
  have H : dn_P L xs (am_mX2 ap_b false h1 h2) := hG _ S9
  have l3' : (j : Int) < ab_cv L xs (am_mX2 ap_b false h1 h2) 34 5 := by omega
  have l2' : (j : Int) < ab_cv L xs (am_mX2 ap_b false h1 h2) 39 i := by omega
  have r : ab_cv L xs (am_mX2 ap_b false h1 h2) 39 j ≤ ab_cv L xs (am_mX2 ap_b false h1 h2) 39 i := H.1 i j (by omega) j1 l3' l2'
  exact bh_ks_o (fun _ h => h) S (ae_as_ok S1 (ae_sub_dn j3 i3) (by omega))
theorem bn_3_ok (hG : ∀ h, G r0 h → dn_P L xs h) {x1 x2 x3 x4 : bh_X} : bh_ok mo (G r0) L xs Q R r0 (bn_3 x1 x2 x3 x4) := fun z o ρ g1 g2 h1 h2 q S _ _ => by
  obtain ⟨a, -, q⟩ := Option.bind_eq_some_iff.mp q
  obtain ⟨b, -, q⟩ := Option.bind_eq_some_iff.mp q
  obtain ⟨c, -, q⟩ := Option.bind_eq_some_iff.mp q
  obtain ⟨d, -, q⟩ := Option.bind_eq_some_iff.mp q
  obtain ⟨ca, qa, q⟩ := Option.bind_eq_some_iff.mp q
  obtain ⟨cb, qb, q⟩ := Option.bind_eq_some_iff.mp q
  obtain ⟨cc, qc, q⟩ := Option.bind_eq_some_iff.mp q
  obtain ⟨cd, qd, q⟩ := Option.bind_eq_some_iff.mp q
  obtain ⟨s, qs, q⟩ := Option.bind_eq_some_iff.mp q
  obtain ⟨hb, q⟩ := ae_bif q
  simp only [Bool.and_eq_true] at hb
  obtain ⟨⟨⟨⟨⟨⟨⟨b1, b2⟩, b3⟩, b4⟩, b5⟩, b6⟩, b7⟩, b8⟩ := hb
  obtain ⟨S1, S2, S4, S5, S6, S7, S8, S9, S10⟩ := S
  obtain ⟨i1, -, d1, e1⟩ := bn_c_ok S1 S4.2.1 qa
  obtain ⟨i2, -, d2, e2⟩ := bn_c_ok S1 S4.2.1 qb
  obtain ⟨i3, -, d3, e3⟩ := bn_c_ok S1 S4.2.1 qc
  obtain ⟨i4, l4, d4, e4⟩ := bn_c_ok S1 S4.2.1 qd
  have s2 : ae_dn z.k.1 ρ s (ab_cv L xs (am_mX2 ap_b false h1 h2) 34 5) := ab_ov_ok S1 S4.2.1 (ae_num_dn (5 : Int) : ae_dn z.k.1 ρ (ae_num 5) ((5 : Nat) : Int)) qs
  have l1 := bn_lt S1 d1 d2 b1
  have l2 := bn_lt S1 d2 d3 b2
  have l3 := bn_lt S1 d3 d4 b3
  have l5 := bn_lt S1 d2 e1 b4
  have l6 := bn_lt S1 d3 e2 b5
  have l7 := bn_lt S1 d4 e3 b6
  have l8 := bn_lt S1 d4 s2 b7
  have l9 := bn_lt S1 d4 e4 b8
  have H : dn_P L xs (am_mX2 ap_b false h1 h2) := hG _ S9
  have m1 : (i4 : Int) < ab_cv L xs (am_mX2 ap_b false h1 h2) 34 5 := by omega
  have m2 : (i2 : Int) < ab_cv L xs (am_mX2 ap_b false h1 h2) 39 i1 := by omega
  have m3 : (i3 : Int) < ab_cv L xs (am_mX2 ap_b false h1 h2) 39 i2 := by omega
  have m4 : (i4 : Int) < ab_cv L xs (am_mX2 ap_b false h1 h2) 39 i3 := by omega
  have r : ab_cv L xs (am_mX2 ap_b false h1 h2) 39 i4 ≤ (i4 : Int) + 1 := H.2 i1 i2 i3 i4 (by omega) (by omega) (by omega) l4 m1 m2 m3 m4
  omega
end BNA
noncomputable def hv_G (L : Nat) (xs : Nat → Int32) (r0 : Nat → Int) (h : List am_E) : Prop := bo_G L xs r0 h ∧ dn_P L xs h
noncomputable def hv_out (mo : ae_Mo) : Bool := bo_out mo && dn_out mo
theorem hv_G_fr {L : Nat} {xs : Nat → Int32} {r0 : Nat → Int} {mo : ae_Mo} (q : hv_out mo = true) {h h' : List am_E} (H : hv_G L xs r0 h) (f : ae_fr mo L xs h h') : hv_G L xs r0 h' := by
  unfold hv_out at q
  rw [Bool.and_eq_true] at q
  exact ⟨bo_G_fr q.1 H.1 f, dn_fr q.2 H.2 f⟩
theorem hv_pc {L : Nat} {xs : Nat → Int32} {c : ab_Pd} (hc : ab_PdOK (bo_G L xs) L xs c) (q : dn_out c.2.2.1 = true) : ab_PdOK (hv_G L xs) L xs c :=
  ab_PdOK_and (P := fun _ h => dn_P L xs h) hc (fun _ _ _ f H => dn_fr q H f)
theorem bo_G_ag {L : Nat} {xs : Nat → Int32} {r r' : Nat → Int} (e : ∀ s, s < 5 → r s = r' s) {h : List am_E} (H : bo_G L xs r h) : bo_G L xs r' h :=
  ⟨H.1, fun s hs => by
    have := H.2 s hs
    rw [e (1 + s) (by omega)] at this
    exact this⟩
theorem hv_G_ag {L : Nat} {xs : Nat → Int32} {r r' : Nat → Int} (e : ∀ s, s < 5 → r s = r' s) {h : List am_E} (H : hv_G L xs r h) : hv_G L xs r' h := ⟨bo_G_ag e H.1, H.2⟩

/-! How many boys stand at a side, one number for both; what is left of a number of rats by parts -/
noncomputable def bh_put (a : Bool) (z : ab_St) (t : ap_T) : ab_St := bif a then (z.k, z.m, z.o, z.w, z.T, z.t1, t) else (z.k, z.m, z.o, z.w, z.T, t, z.t2)
section BHB
variable {mo : ae_Mo} {G : List am_E → Prop} {L : Nat} {xs : Nat → Int32} {Q : Option Value → Option Value → List am_E → List am_E → Prop} {ρ : Nat → Int} {g1 g2 : ap_cT} {h1 h2 : List am_E}
theorem bh_put1 {z : ab_St} (S : ab_sat G L xs ρ z g1 g2 h1 h2) {t' : ap_T} {g' : ap_cT} (T' : ap_tt z.k.1 ρ t' g') (run : ∀ x, ap_run L xs g' h1 x → ap_run L xs g1 h1 x) : ∃ z' ∈ [bh_put false z t'], ∃ ρ' g1' g2' h1' h2', ae_up2 ρ z.k ρ' z'.k ∧ ab_sat G L xs ρ' z' g1' g2' h1' h2' ∧ (ap_end mo L xs Q g1' g2' h1' h2' → ap_end mo L xs Q g1 g2 h1 h2) := by
  obtain ⟨S1, S2, S4, S5, S6, S7, S8, S9, S10⟩ := S
  refine ⟨_, List.mem_singleton.mpr rfl, ρ, g', g2, h1, h2, ⟨Nat.le_refl _, ae_ag_rf _ _, S1⟩, ⟨S1, S2, S4, T', S6, S7, S8, S9, S10⟩, fun fin => ?_⟩
  obtain ⟨a1, d1, a2, d2, y1, rest⟩ := fin
  exact ⟨a1, d1, a2, d2, run _ y1, rest⟩
theorem bh_put2 {z : ab_St} (S : ab_sat G L xs ρ z g1 g2 h1 h2) {t' : ap_T} {g' : ap_cT} (T' : ap_tt z.k.1 ρ t' g') (run : ∀ x, ap_run L xs g' h2 x → ap_run L xs g2 h2 x) : ∃ z' ∈ [bh_put true z t'], ∃ ρ' g1' g2' h1' h2', ae_up2 ρ z.k ρ' z'.k ∧ ab_sat G L xs ρ' z' g1' g2' h1' h2' ∧ (ap_end mo L xs Q g1' g2' h1' h2' → ap_end mo L xs Q g1 g2 h1 h2) := by
  obtain ⟨S1, S2, S4, S5, S6, S7, S8, S9, S10⟩ := S
  refine ⟨_, List.mem_singleton.mpr rfl, ρ, g1, g', h1, h2, ⟨Nat.le_refl _, ae_ag_rf _ _, S1⟩, ⟨S1, S2, S4, S5, T', S7, S8, S9, S10⟩, fun fin => ?_⟩
  obtain ⟨a1, d1, a2, d2, y1, y2, rest⟩ := fin
  exact ⟨a1, d1, a2, d2, y1, run _ y2, rest⟩
end BHB
noncomputable def bo_k0 (k : ae_K) (lv : ae_L) (l : Nat) (c : Int) : Bool := match ae_lg lv l with
  | some v => Nat.beq v.1 0 && ae_kc (ae_nr k v.2.2) && ae_ie (ae_nr k v.2.2).1 c
  | none => false
noncomputable def bo_rf (lv : ae_L) (l p : Nat) : Bool := match ae_lg lv l with
  | some v => Nat.beq v.1 2 && Nat.beq v.2.1 p
  | none => false
noncomputable def bo_sd (k : ae_K) (lv : ae_L) (l : Nat) : Option Nat := (ae_lg lv l).bind fun v => bif Nat.beq v.1 0 && ae_kc (ae_nr k v.2.2) && ae_le 0 (ae_nr k v.2.2).1 && ae_le (ae_nr k v.2.2).1 3 then some (ae_nr k v.2.2).1.toNat else none
theorem bo_k0_ok {ρ : Nat → Int} {k : ae_K} (K : ae_okK ρ k) {lv : ae_L} {lw : am_L} (hl : ae_lr k.1 ρ lv lw) {l : Nat} {c : Int} (q : bo_k0 k lv l c = true) : ∃ x : Int32, am_lk lw l = some (.int x) ∧ x.toInt = c := by
  unfold bo_k0 at q
  split at q
  · rename_i v hv
    simp only [Bool.and_eq_true] at q
    obtain ⟨⟨q1, q2⟩, q3⟩ := q
    obtain ⟨w, e1, e2⟩ := ae_lg_ok hl hv
    obtain ⟨x, rfl, d⟩ := ae_ok0 e2 q1
    exact ⟨x, e1, (ae_kc_ok q2 (ae_nr_dn K d)).trans (ae_ie_ok q3)⟩
  · cases q
theorem bo_rf_ok {ρ : Nat → Int} {n : Nat} {lv : ae_L} {lw : am_L} (hl : ae_lr n ρ lv lw) {l p : Nat} (q : bo_rf lv l p = true) : am_lk lw l = some (.ref p) := by
  unfold bo_rf at q
  split at q
  · rename_i v hv
    rw [Bool.and_eq_true] at q
    obtain ⟨w, e1, e2⟩ := ae_lg_ok hl hv
    obtain ⟨t, p', x⟩ := v
    have h1 : t = 2 := Nat.eq_of_beq_eq_true q.1
    have h2 : p' = p := Nat.eq_of_beq_eq_true q.2
    subst h1; subst h2
    have e2 : w = .ref p' := e2
    rw [e1, e2]
  · cases q
theorem bo_sd_ok {ρ : Nat → Int} {k : ae_K} (K : ae_okK ρ k) {lv : ae_L} {lw : am_L} (hl : ae_lr k.1 ρ lv lw) {l s : Nat} (q : bo_sd k lv l = some s) : s < 4 ∧ ∃ x : Int32, am_lk lw l = some (.int x) ∧ x.toInt = (s : Int) := by
  obtain ⟨v, hv, q⟩ := Option.bind_eq_some_iff.mp q
  obtain ⟨hb, q⟩ := ae_bif q
  cases q
  simp only [Bool.and_eq_true] at hb
  obtain ⟨⟨⟨q1, q2⟩, q3⟩, q4⟩ := hb
  have q3 := ae_le_iff.mp q3
  have q4 := ae_le_iff.mp q4
  obtain ⟨w, e1, e2⟩ := ae_lg_ok hl hv
  obtain ⟨x, rfl, d⟩ := ae_ok0 e2 q1
  have e := ae_kc_ok q2 (ae_nr_dn K d)
  exact ⟨by omega, x, e1, by omega⟩
/-- both numbers of boys -/
noncomputable def bo_G (L : Nat) (xs : Nat → Int32) (r0 : Nat → Int) (h : List am_E) : Prop := ((aq_ci L xs h 8 8).toNat ≤ 4 ∧ (aq_ci L xs h 224 3).toNat ≤ 4) ∧ ∀ s : Nat, s < 4 → r0 (1 + s) = bo_cnt (fun j => aq_ci L xs h (18 + 5 * j) 1) (s : Int) (aq_ci L xs h 8 8).toNat ∧ r0 (1 + s) = bo_cnt (fun j => aq_ci L xs h 224 (97 + j)) (s : Int) (aq_ci L xs h 224 3).toNat
theorem bo_cnt_eq {f g : Nat → Int} {s : Int} : ∀ {n : Nat}, (∀ j, j < n → f j = g j) → bo_cnt f s n = bo_cnt g s n
  | 0, _ => rfl
  | n + 1, e => by
    show bo_cnt f s n + (if f n = s then 1 else 0) = bo_cnt g s n + (if g n = s then 1 else 0)
    rw [bo_cnt_eq (n := n) (fun j hj => e j (by omega)), e n (by omega)]
noncomputable def bo_out (mo : ae_Mo) : Bool := !(ae_inm mo 8 8) && !(ae_inm mo 224 3) && (List.range 4).all fun j => !(ae_inm mo (18 + 5 * j) 1) && !(ae_inm mo 224 (97 + j))
theorem bo_G_fr {L : Nat} {xs : Nat → Int32} {r0 : Nat → Int} {mo : ae_Mo} (q : bo_out mo = true) {h h' : List am_E} (H : bo_G L xs r0 h) (f : ae_fr mo L xs h h') : bo_G L xs r0 h' := by
  unfold bo_out at q
  simp only [Bool.and_eq_true, Bool.not_eq_true'] at q
  obtain ⟨⟨q1, q2⟩, q3⟩ := q
  have c : ∀ j, j < 4 → ae_inm mo (18 + 5 * j) 1 = false ∧ ae_inm mo 224 (97 + j) = false := fun j hj => by
    have h1 := List.all_eq_true.mp q3 j (List.mem_range.mpr hj)
    simp only [Bool.and_eq_true, Bool.not_eq_true'] at h1
    exact h1
  obtain ⟨hn, H⟩ := H
  refine ⟨by rw [aq_ci_fr f q1, aq_ci_fr f q2]; exact hn, fun s hs => ?_⟩
  obtain ⟨a, b⟩ := H s hs
  rw [aq_ci_fr f q1, aq_ci_fr f q2]
  refine ⟨a.trans (bo_cnt_eq fun j hj => ?_), b.trans (bo_cnt_eq fun j hj => ?_)⟩
  · exact (aq_ci_fr f (c j (by omega)).1).symm
  · exact (aq_ci_fr f (c j (by omega)).2).symm
noncomputable def bo_fl (lv : ae_L) : ae_L := lv.filter fun q => !(Nat.beq q.1 3) && !(Nat.beq q.1 4) && (!(Nat.beq q.1 2) || Nat.beq q.2.1 0)
/-- the class counts them -/
noncomputable def bo_h1 : bh_H := fun z => match z.t1.1 with
  | f :: r => bif Nat.beq f.2.1 108 && Nat.beq f.2.2.1 10 && ab_nl f.2.2.2.2 && bo_rf f.2.2.2.1 0 8 && bo_k0 z.k f.2.2.2.1 3 0 && bo_k0 z.k f.2.2.2.1 4 0 then
      (bo_sd z.k f.2.2.2.1 1).bind fun s => (ae_vd false z.k z.m).bind fun _ => bif Nat.blt (1 + s) z.k.1 then some [bh_put false z ((f.1, 108, 42, (3, ((0, 0, ae_sym (1 + s)) : ae_V)) :: bo_fl f.2.2.2.1, []) :: r, none)] else none
    else none
  | [] => none
/-- the reference counts them -/
noncomputable def bo_h2 : bh_H := fun z => match z.t2.1 with
  | f :: r => bif Nat.beq f.2.1 288 && Nat.beq f.2.2.1 4 && ab_nl f.2.2.2.2 && bo_rf f.2.2.2.1 0 219 && bo_k0 z.k f.2.2.2.1 2 0 && bo_k0 z.k f.2.2.2.1 3 0 then
      (bo_sd z.k f.2.2.2.1 1).bind fun s => (ae_vd false z.k z.m).bind fun _ => bif Nat.blt (1 + s) z.k.1 then some [bh_put true z (ap_pop (some (0, 0, ae_sym (1 + s))) r)] else none
    else none
  | [] => none
section BOH
variable {mo : ae_Mo} {L : Nat} {xs : Nat → Int32} {Q : Option Value → Option Value → List am_E → List am_E → Prop} {R : Nat} {r0 : Nat → Int} {G : (Nat → Int) → List am_E → Prop}
theorem bo_own (hf : ae_fok = true) {ρ : Nat → Int} {z : ab_St} {g1 g2 : ap_cT} {h1 h2 : List am_E} {M : List ae_M} {G : List am_E → Prop} (S : ab_sat G L xs ρ z g1 g2 h1 h2) (q : ae_vd false z.k z.m = some M) : ae_hk false L xs h1 ∧ ae_hk false L xs h2 := by
  obtain ⟨S1, S2, S4, S5, S6, S7, S8, S9, S10⟩ := S
  obtain ⟨H2, D2⟩ := ae_vd_ok hf S1 S4 q
  have kM := ae_hk_of hf (fun e => e) H2 D2
  exact ⟨aq_own_hk false kM S7 S8.1.1, aq_own_hk true (by rw [ap_mX_not]; exact kM) S8 S7.1.1⟩
theorem bo_h1_ok (hf : ae_fok = true) (hG : ∀ h, G r0 h → bo_G L xs r0 h) (hR : Nat.ble 5 R = true) : bh_ok mo (G r0) L xs Q R r0 bo_h1 := fun z o ρ g1 g2 h1 h2 q S s1 s2 => by
  have hR := Nat.le_of_ble_eq_true hR
  unfold bo_h1 at q
  split at q <;> try (cases q; done)
  rename_i f r ht
  obtain ⟨hb, q⟩ := ae_bif q
  simp only [Bool.and_eq_true] at hb
  obtain ⟨⟨⟨⟨⟨b1, b2⟩, b3⟩, b4⟩, b5⟩, b6⟩ := hb
  obtain ⟨s, hs, q⟩ := Option.bind_eq_some_iff.mp q
  obtain ⟨M, hM, q⟩ := Option.bind_eq_some_iff.mp q
  obtain ⟨hk1, q⟩ := ae_bif q
  cases q
  obtain ⟨k1, k2⟩ := bo_own hf S hM
  have g0 := hG _ S.2.2.2.2.2.2.2.1
  have T1 := S.2.2.2.1
  have F := T1.1
  rw [ht] at F
  obtain ⟨gf, gv⟩ := g1
  cases gf with
  | nil => exact absurd F id
  | cons c cs =>
    obtain ⟨dd, yy, pc, lw, sw⟩ := c
    obtain ⟨⟨p1, p2, p3, p4, p5⟩, p6⟩ := F
    have p2 : f.2.1 = yy := p2
    have p3 : f.2.2.1 = pc := p3
    have p4 : ae_lr z.k.1 ρ f.2.2.2.1 lw := p4
    have p5 : ae_sr z.k.1 ρ f.2.2.2.2 sw := p5
    rw [ab_nl_ok b3] at p5
    cases sw with
    | cons _ _ => exact absurd p5 id
    | nil =>
      obtain rfl : yy = 108 := by
        have e := Nat.eq_of_beq_eq_true b1
        have e2 : f.2.1 = yy := p2
        omega
      obtain rfl : pc = 10 := by
        have e := Nat.eq_of_beq_eq_true b2
        have e2 : f.2.2.1 = pc := p3
        omega
      obtain ⟨hs4, xs1, e1, e2⟩ := bo_sd_ok S.1 p4 hs
      obtain ⟨c3, e3, e4⟩ := bo_k0_ok S.1 p4 b5
      obtain ⟨c4, e5, e6⟩ := bo_k0_ok S.1 p4 b6
      have l0 := bo_rf_ok p4 b4
      obtain ⟨x8, x8a, x8b, x8c, x8d⟩ := rs_int k1 (p := 8) (j := 8) ⟨by decide, by decide, by decide⟩ rfl
      have cb : 0 ≤ aq_ci L xs h1 8 8 ∧ aq_ci L xs h1 8 8 ≤ 4 := by
        rw [← x8b]
        exact ⟨x8c, x8d⟩
      obtain ⟨lw', v, r1, r2, r3, r4⟩ := bo_cls (d := dd) (s := xs1) k1 (N := (aq_ci L xs h1 8 8).toNat) (by omega) (by omega) (aq_ci L xs h1 8 8).toNat 0 lw c3 c4 (Nat.zero_add _) l0 e1 e3 e5 (by rw [e6]; rfl) (by rw [e4]; rfl)
      have lnA := k1.1.1
      have lnB := k2.1.1
      have gs := (g0.2 s hs4).1
      rw [aq_ciA lnA lnB (show Nat.blt 8 219 = true from rfl)] at gs
      have cv : bo_cnt (fun j => aq_ci L xs (am_mX2 ap_b false h1 h2) (18 + 5 * j) 1) (s : Int) (aq_ci L xs h1 8 8).toNat = bo_cnt (fun j => aq_ci L xs h1 (18 + 5 * j) 1) (s : Int) (aq_ci L xs h1 8 8).toNat := bo_cnt_eq fun j hj => by
        exact aq_ciA lnA lnB (Nat.blt_eq.mpr (by omega))
      rw [cv] at gs
      rw [e2] at r3
      refine bh_put1 S (g' := ((dd, 108, 42, lw', []) :: cs, none)) ⟨⟨⟨p1, rfl, rfl, fun q' hq => ?_, trivial⟩, p6⟩, fun e => by cases e⟩ (fun x hx => am_fn_of (f := (dd, 108, 10, lw, [])) (f' := (dd, 108, 42, lw', [])) (h := h1) (h' := h1) (r := cs) (fun n y hy => r4 n y hy) hx)
      rcases List.mem_cons.mp hq with rfl | hq
      · refine ⟨.int v, r2, v, rfl, ?_⟩
        have d := ae_sym_dn (n := z.k.1) (ρ := ρ) (s := 1 + s) (Nat.blt_eq.mp hk1)
        refine ⟨d.1, d.2.trans ?_⟩
        rw [s2 (1 + s) (by omega), r3]
        exact gs
      · obtain ⟨m1, m2⟩ := List.mem_filter.mp hq
        simp only [Bool.and_eq_true, Bool.not_eq_true', Bool.or_eq_true] at m2
        obtain ⟨⟨n3, n4⟩, n2⟩ := m2
        obtain ⟨u, u1, u2⟩ := p4 q' m1
        refine ⟨u, r1 q'.1 u (fun e => by rw [e] at n3; cases n3) (fun e => by rw [e] at n4; cases n4) (fun e => ?_) u1, u2⟩
        rcases n2 with n2 | n2
        · rw [e] at n2; cases n2
        · obtain ⟨x, rfl, -⟩ := ae_ok0 u2 n2
          rfl
theorem bo_h2_ok (hf : ae_fok = true) (hG : ∀ h, G r0 h → bo_G L xs r0 h) (hR : Nat.ble 5 R = true) : bh_ok mo (G r0) L xs Q R r0 bo_h2 := fun z o ρ g1 g2 h1 h2 q S s1 s2 => by
  have hR := Nat.le_of_ble_eq_true hR
  unfold bo_h2 at q
  split at q <;> try (cases q; done)
  rename_i f r ht
  obtain ⟨hb, q⟩ := ae_bif q
  simp only [Bool.and_eq_true] at hb
  obtain ⟨⟨⟨⟨⟨b1, b2⟩, b3⟩, b4⟩, b5⟩, b6⟩ := hb
  obtain ⟨s, hs, q⟩ := Option.bind_eq_some_iff.mp q
  obtain ⟨M, hM, q⟩ := Option.bind_eq_some_iff.mp q
  obtain ⟨hk1, q⟩ := ae_bif q
  cases q
  obtain ⟨k1, k2⟩ := bo_own hf S hM
  have g0 := hG _ S.2.2.2.2.2.2.2.1
  have T2 := S.2.2.2.2.1
  have F := T2.1
  rw [ht] at F
  obtain ⟨gf, gv⟩ := g2
  cases gf with
  | nil => exact absurd F id
  | cons c cs =>
    obtain ⟨dd, yy, pc, lw, sw⟩ := c
    obtain ⟨⟨p1, p2, p3, p4, p5⟩, p6⟩ := F
    have p2 : f.2.1 = yy := p2
    have p3 : f.2.2.1 = pc := p3
    have p4 : ae_lr z.k.1 ρ f.2.2.2.1 lw := p4
    have p5 : ae_sr z.k.1 ρ f.2.2.2.2 sw := p5
    rw [ab_nl_ok b3] at p5
    cases sw with
    | cons _ _ => exact absurd p5 id
    | nil =>
      obtain rfl : yy = 288 := by
        have e := Nat.eq_of_beq_eq_true b1
        have e2 : f.2.1 = yy := p2
        omega
      obtain rfl : pc = 4 := by
        have e := Nat.eq_of_beq_eq_true b2
        have e2 : f.2.2.1 = pc := p3
        omega
      obtain ⟨hs4, xs1, e1, e2⟩ := bo_sd_ok S.1 p4 hs
      obtain ⟨c2, e3, e4⟩ := bo_k0_ok S.1 p4 b5
      obtain ⟨c3, e5, e6⟩ := bo_k0_ok S.1 p4 b6
      have l0 := bo_rf_ok p4 b4
      obtain ⟨x8, x8a, x8b, x8c, x8d⟩ := rs_int k2 (p := 224) (j := 3) ⟨by decide, by decide, by decide⟩ rfl
      have cb : 0 ≤ aq_ci L xs h2 224 3 ∧ aq_ci L xs h2 224 3 ≤ 4 := by
        rw [← x8b]
        exact ⟨x8c, x8d⟩
      obtain ⟨n, v, r1, r2⟩ := bo_ref (d := dd) (s := xs1) k2 (N := (aq_ci L xs h2 224 3).toNat) (by omega) (by omega) (aq_ci L xs h2 224 3).toNat 0 lw c2 c3 (Nat.zero_add _) l0 e1 e3 e5 (by rw [e6]; rfl) (by rw [e4]; rfl)
      have lnA := k1.1.1
      have lnB := k2.1.1
      have gs := (g0.2 s hs4).2
      rw [aq_ciB lnA lnB (show Nat.blt 224 219 = false from rfl)] at gs
      have cv : bo_cnt (fun j => aq_ci L xs (am_mX2 ap_b false h1 h2) 224 (97 + j)) (s : Int) (aq_ci L xs h2 224 3).toNat = bo_cnt (fun j => aq_ci L xs h2 224 (97 + j)) (s : Int) (aq_ci L xs h2 224 3).toNat := bo_cnt_eq fun j _ => aq_ciB lnA lnB (show Nat.blt 224 219 = false from rfl)
      rw [cv] at gs
      rw [e2] at r2
      have d := ae_sym_dn (n := z.k.1) (ρ := ρ) (s := 1 + s) (Nat.blt_eq.mp hk1)
      refine bh_put2 S (g' := am_pp (some (.int v)) cs) (am_pp_tt p6 ⟨.int v, rfl, v, rfl, d.1, d.2.trans (by rw [s2 (1 + s) (by omega), r2]; exact gs)⟩) (fun x hx => ?_)
      exact am_pp_run (c := (dd, 288, 4, lw, [])) (v := some (.int v)) (e := h2) ⟨n, r1⟩ hx
end BOH
/-! A part of the last layer: both come to the same number -/
noncomputable def dv_in (lv : ae_L) (l : Nat) : Option ae_X := (ae_lg lv l).bind fun v => bif Nat.beq v.1 0 then some v.2.2 else none
theorem dv_in_ok {n : Nat} {ρ : Nat → Int} {lv : ae_L} {lw : am_L} (hl : ae_lr n ρ lv lw) {l : Nat} {e : ae_X} (q : dv_in lv l = some e) : ∃ x : Int32, am_lk lw l = some (.int x) ∧ ae_dn n ρ e x.toInt := by
  obtain ⟨v, hv, q⟩ := Option.bind_eq_some_iff.mp q
  obtain ⟨hb, q⟩ := ae_bif q
  cases q
  obtain ⟨w, e1, e2⟩ := ae_lg_ok hl hv
  obtain ⟨x, rfl, d⟩ := ae_ok0 e2 hb
  exact ⟨x, e1, d⟩
theorem dv_gi {lw : am_L} {l : Nat} {x : Int32} (h : am_lk lw l = some (.int x)) : am_gi lw l = some x := by
  unfold am_gi
  rw [h]
  rfl
theorem dv_gr {lw : am_L} {l p : Nat} (h : am_lk lw l = some (.ref p)) : am_gr lw l = some p := by
  unfold am_gr
  rw [h]
  rfl
/-- what a part gets -/
noncomputable def dv_w (X Y I : Int32) : Int32 := bif am_cm2 .ge I (X - X / Y * Y) then X / Y else X / Y + Int32.ofInt 1
noncomputable def dv_w2 (X Y I : Int32) : Int32 := X / Y + (bif am_cm2 .ge I (X - X / Y * Y) then Int32.ofInt 0 else Int32.ofInt 1)
theorem dv_same (X Y I : Int32) : dv_w2 X Y I = dv_w X Y I := by
  unfold dv_w dv_w2
  cases am_cm2 .ge I (X - X / Y * Y) with
  | true => show X / Y + Int32.ofInt 0 = X / Y; rw [show Int32.ofInt 0 = (0 : Int32) from rfl, Int32.add_zero]
  | false => rfl
theorem dv_rg {X Y I : Int32} (h1 : 0 ≤ X.toInt) (h2 : 1 ≤ Y.toInt) (h3 : X.toInt ≤ 1000000) : 0 ≤ (dv_w X Y I).toInt ∧ (dv_w X Y I).toInt ≤ X.toInt + 1 := by
  obtain ⟨e, -⟩ := dv_val h1 h2
  have h5 : 0 ≤ X.toInt / Y.toInt := Int.ediv_nonneg (by omega) (by omega)
  have h6 : X.toInt / Y.toInt ≤ X.toInt := Int.ediv_le_self _ (by omega)
  unfold dv_w
  cases am_cm2 .ge I (X - X / Y * Y) with
  | true => show 0 ≤ (X / Y).toInt ∧ (X / Y).toInt ≤ X.toInt + 1; omega
  | false =>
    show 0 ≤ (X / Y + Int32.ofInt 1).toInt ∧ (X / Y + Int32.ofInt 1).toInt ≤ X.toInt + 1
    have : (X / Y + Int32.ofInt 1).toInt = (X / Y).toInt + 1 := by
      rw [ae_w_add, show (Int32.ofInt 1).toInt = 1 from rfl, ae_w32_rg (by omega) (by omega)]
    omega
section DVR
variable {L : Nat} {xs : Nat → Int32} {d : Nat} {lw : am_L} {X Y I : Int32} {r : List am_Fr} {h : List am_E} {x : Option Value × List am_E}
theorem dv_q {y pc a b : Nat} {sw : List Value} (hY : Y ≠ 0) (hc : am_code y pc = some (.idiv, a, b)) (g : am_fn L xs (d, y, pc + 1, lw, .int (X / Y) :: sw) r h x) : am_fn L xs (d, y, pc, lw, .int Y :: .int X :: sw) r h x :=
  am_fn1 (z := (pc + 1, lw, .int (X / Y) :: sw, none)) hc rfl rfl (by show am_if (decide (¬ Y = 0)) _ = _; rw [show decide (¬ Y = 0) = true from decide_eq_true hY]; rfl) rfl g
theorem dv_m {y pc a b : Nat} {sw : List Value} (hY : Y ≠ 0) (hc : am_code y pc = some (.irem, a, b)) (g : am_fn L xs (d, y, pc + 1, lw, .int (X - X / Y * Y) :: sw) r h x) : am_fn L xs (d, y, pc, lw, .int Y :: .int X :: sw) r h x :=
  am_fn1 (z := (pc + 1, lw, .int (X - X / Y * Y) :: sw, none)) hc rfl rfl (by show am_if (decide (¬ Y = 0)) _ = _; rw [show decide (¬ Y = 0) = true from decide_eq_true hY]; rfl) rfl g
theorem dv_il {y pc a b : Nat} {i : Fin 4} {v : Int32} {sw : List Value} (hc : am_code y pc = some (.iload_n i, a, b)) (hv : am_lk lw i.val = some (.int v)) (g : am_fn L xs (d, y, pc + 1, lw, .int v :: sw) r h x) : am_fn L xs (d, y, pc, lw, sw) r h x :=
  am_fn1 (z := (pc + 1, lw, .int v :: sw, none)) hc rfl rfl (by show (am_gi lw i.val).bind _ = _; rw [dv_gi hv]; rfl) rfl g
theorem dv_il2 {y pc a b i : Nat} {v : Int32} {sw : List Value} (hc : am_code y pc = some (.iload i, a, b)) (hv : am_lk lw i = some (.int v)) (g : am_fn L xs (d, y, pc + 2, lw, .int v :: sw) r h x) : am_fn L xs (d, y, pc, lw, sw) r h x :=
  am_fn1 (z := (pc + 2, lw, .int v :: sw, none)) hc rfl rfl (by show (am_gi lw i).bind _ = _; rw [dv_gi hv]; rfl) rfl g
theorem dv_al {y pc a b p : Nat} {i : Fin 4} {sw : List Value} (hc : am_code y pc = some (.aload_n i, a, b)) (hv : am_lk lw i.val = some (.ref p)) (g : am_fn L xs (d, y, pc + 1, lw, .ref p :: sw) r h x) : am_fn L xs (d, y, pc, lw, sw) r h x :=
  am_fn1 (z := (pc + 1, lw, .ref p :: sw, none)) hc rfl rfl (by show (am_gr lw i.val).bind _ = _; rw [dv_gr hv]; rfl) rfl g
theorem dv_ic {y pc a b : Nat} {n : Int} {sw : List Value} (hc : am_code y pc = some (.iconst n, a, b)) (g : am_fn L xs (d, y, pc + 1, lw, .int (Int32.ofInt n) :: sw) r h x) : am_fn L xs (d, y, pc, lw, sw) r h x :=
  am_fn1 (z := (pc + 1, lw, .int (Int32.ofInt n) :: sw, none)) hc rfl rfl rfl rfl g
theorem dv_ad {y pc a b : Nat} {u v : Int32} {sw : List Value} (hc : am_code y pc = some (.iadd, a, b)) (g : am_fn L xs (d, y, pc + 1, lw, .int (u + v) :: sw) r h x) : am_fn L xs (d, y, pc, lw, .int v :: .int u :: sw) r h x :=
  am_fn1 (z := (pc + 1, lw, .int (u + v) :: sw, none)) hc rfl rfl rfl rfl g
theorem dv_go {y pc a b : Nat} {o : Int} {sw : List Value} (hc : am_code y pc = some (.goto o, a, b)) (g : am_fn L xs (d, y, a, lw, sw) r h x) : am_fn L xs (d, y, pc, lw, sw) r h x :=
  am_fn1 (z := (a, lw, sw, none)) hc rfl rfl rfl rfl g
theorem dv_if {y pc a b : Nat} {o : Int} {u v : Int32} {sw : List Value} (hc : am_code y pc = some (.if_icmp .ge o, a, b)) (g : am_fn L xs (d, y, bif am_cm2 .ge u v then a else pc + 3, lw, sw) r h x) : am_fn L xs (d, y, pc, lw, .int v :: .int u :: sw) r h x :=
  am_fn1 (z := (bif am_cm2 .ge u v then a else pc + 3, lw, sw, none)) hc rfl rfl rfl rfl g
theorem dv_run1 (hY : Y ≠ 0) (l0 : am_lk lw 0 = some (.ref 8)) (l2 : am_lk lw 2 = some (.int Y)) (l3 : am_lk lw 3 = some (.int X)) (l4 : am_lk lw 4 = some (.int I)) (g : am_fn L xs (d, 113, 59, lw, [.int (Int32.ofInt 1), .int (dv_w X Y I), .ref 8]) r h x) : am_fn L xs (d, 113, 38, lw, []) r h x := by
  refine dv_al (i := 0) (a := 0) (b := 0) rfl l0 (dv_il2 (i := 4) (a := 0) (b := 0) rfl l4 (dv_il (i := 3) (a := 0) (b := 0) rfl l3 (dv_il (i := 2) (a := 0) (b := 0) rfl l2 (dv_m (a := 0) (b := 0) hY rfl (dv_if (o := 11) (a := 55) (b := 0) rfl ?_)))))
  unfold dv_w at g
  cases hc : am_cm2 .ge I (X - X / Y * Y) with
  | true =>
    rw [hc] at g
    exact dv_il (i := 3) (a := 0) (b := 0) rfl l3 (dv_il (i := 2) (a := 0) (b := 0) rfl l2 (dv_q (a := 0) (b := 0) hY rfl (dv_ic (n := 1) (a := 0) (b := 0) rfl g)))
  | false =>
    rw [hc] at g
    exact dv_il (i := 3) (a := 0) (b := 0) rfl l3 (dv_il (i := 2) (a := 0) (b := 0) rfl l2 (dv_q (a := 0) (b := 0) hY rfl (dv_ic (n := 1) (a := 0) (b := 0) rfl (dv_ad (a := 0) (b := 0) rfl (dv_go (o := 6) (a := 58) (b := 0) rfl (dv_ic (n := 1) (a := 0) (b := 0) rfl g))))))
theorem dv_run2 (hY : Y ≠ 0) (l0 : am_lk lw 0 = some (.ref 219)) (l1 : am_lk lw 1 = some (.int Y)) (l3 : am_lk lw 3 = some (.int X)) (l4 : am_lk lw 4 = some (.int I)) (g : am_fn L xs (d, 293, 47, lw, [.int (dv_w2 X Y I), .ref 219]) r h x) : am_fn L xs (d, 293, 29, lw, []) r h x := by
  refine dv_al (i := 0) (a := 0) (b := 0) rfl l0 (dv_il (i := 3) (a := 0) (b := 0) rfl l3 (dv_il (i := 1) (a := 0) (b := 0) rfl l1 (dv_q (a := 0) (b := 0) hY rfl (dv_il2 (i := 4) (a := 0) (b := 0) rfl l4 (dv_il (i := 3) (a := 0) (b := 0) rfl l3 (dv_il (i := 1) (a := 0) (b := 0) rfl l1 (dv_m (a := 0) (b := 0) hY rfl (dv_if (o := 7) (a := 45) (b := 0) rfl ?_))))))))
  unfold dv_w2 at g
  cases hc : am_cm2 .ge I (X - X / Y * Y) with
  | true =>
    rw [hc] at g
    exact dv_ic (n := 0) (a := 0) (b := 0) rfl (dv_ad (a := 0) (b := 0) rfl g)
  | false =>
    rw [hc] at g
    exact dv_ic (n := 1) (a := 0) (b := 0) rfl (dv_go (o := 4) (a := 46) (b := 0) rfl (dv_ad (a := 0) (b := 0) rfl g))
end DVR
noncomputable def dv_h : bh_H := fun z => match z.t1.1 with
  | f1 :: r1 => (match z.t2.1 with
    | f2 :: r2 => bif Nat.beq f1.2.1 113 && Nat.beq f1.2.2.1 38 && Nat.beq f2.2.1 293 && Nat.beq f2.2.2.1 29 && ab_nl f1.2.2.2.2 && ab_nl f2.2.2.2.2 && bo_rf f1.2.2.2.1 0 8 && bo_rf f2.2.2.2.1 0 219 then
        (dv_in f1.2.2.2.1 2).bind fun p1 => (dv_in f1.2.2.2.1 3).bind fun n1 => (dv_in f1.2.2.2.1 4).bind fun i1 => (dv_in f2.2.2.2.1 1).bind fun p2 => (dv_in f2.2.2.2.1 3).bind fun n2 => (dv_in f2.2.2.2.1 4).bind fun i2 =>
          bif ae_rg z.k (ae_sub p1 p2) 0 0 && ae_rg z.k (ae_sub n1 n2) 0 0 && ae_rg z.k (ae_sub i1 i2) 0 0 && ae_z z.k (ae_neg p1 1) && ae_rg z.k n1 0 1000000 then
            (ae_hi z.k n1).bind fun b => some [(ae_new z.k 0 (b + 1), z.m, z.o, z.w, z.T, ((f1.1, 113, 59, f1.2.2.2.1, [(0, 0, ae_num 1), (0, 0, ae_sym z.k.1), (2, 8, ae_num 0)]) :: r1, none), ((f2.1, 293, 47, f2.2.2.2.1, [(0, 0, ae_sym z.k.1), (2, 219, ae_num 0)]) :: r2, none))]
          else none
      else none
    | [] => none)
  | [] => none
section DVH
variable {mo : ae_Mo} {G : List am_E → Prop} {L : Nat} {xs : Nat → Int32} {Q : Option Value → Option Value → List am_E → List am_E → Prop} {R : Nat} {r0 : Nat → Int}
theorem dv_h_ok : bh_ok mo G L xs Q R r0 dv_h := fun z o ρ g1 g2 h1 h2 q S _ _ => by
  obtain ⟨S1, S2, S4, S5, S6, S7, S8, S9, h0, q1', q2', q3'⟩ := S
  unfold dv_h at q
  split at q <;> try (cases q; done)
  rename_i f1 r1 ht1
  split at q <;> try (cases q; done)
  rename_i f2 r2 ht2
  obtain ⟨hb, q⟩ := ae_bif q
  simp only [Bool.and_eq_true] at hb
  obtain ⟨⟨⟨⟨⟨⟨⟨b1, b2⟩, b3⟩, b4⟩, b5⟩, b6⟩, b7⟩, b8⟩ := hb
  obtain ⟨p1, hp1, q⟩ := Option.bind_eq_some_iff.mp q
  obtain ⟨n1, hn1, q⟩ := Option.bind_eq_some_iff.mp q
  obtain ⟨i1, hi1, q⟩ := Option.bind_eq_some_iff.mp q
  obtain ⟨p2, hp2, q⟩ := Option.bind_eq_some_iff.mp q
  obtain ⟨n2, hn2, q⟩ := Option.bind_eq_some_iff.mp q
  obtain ⟨i2, hi2, q⟩ := Option.bind_eq_some_iff.mp q
  obtain ⟨hc, q⟩ := ae_bif q
  simp only [Bool.and_eq_true] at hc
  obtain ⟨⟨⟨⟨c1, c2⟩, c3⟩, c4⟩, c5⟩ := hc
  obtain ⟨b, hbv, q⟩ := Option.bind_eq_some_iff.mp q
  cases q
  obtain ⟨gf1, gv1⟩ := g1
  obtain ⟨gf2, gv2⟩ := g2
  have F1 := S5.1
  have F2 := S6.1
  rw [ht1] at F1
  rw [ht2] at F2
  cases gf1 with
  | nil => exact absurd F1 id
  | cons g1 cs1 =>
  cases gf2 with
  | nil => exact absurd F2 id
  | cons g2 cs2 =>
  obtain ⟨d1, y1, pc1, lw1, sw1⟩ := g1
  obtain ⟨d2, y2, pc2, lw2, sw2⟩ := g2
  obtain ⟨⟨u1, u2, u3, u4, u5⟩, u6⟩ := F1
  obtain ⟨⟨v1, v2, v3, v4, v5⟩, v6⟩ := F2
  have u2 : f1.2.1 = y1 := u2
  have u3 : f1.2.2.1 = pc1 := u3
  have v2 : f2.2.1 = y2 := v2
  have v3 : f2.2.2.1 = pc2 := v3
  have u4 : ae_lr z.k.1 ρ f1.2.2.2.1 lw1 := u4
  have v4 : ae_lr z.k.1 ρ f2.2.2.2.1 lw2 := v4
  have u5 : ae_sr z.k.1 ρ f1.2.2.2.2 sw1 := u5
  have v5 : ae_sr z.k.1 ρ f2.2.2.2.2 sw2 := v5
  rw [ab_nl_ok b5] at u5
  rw [ab_nl_ok b6] at v5
  cases sw1 with
  | cons _ _ => exact absurd u5 id
  | nil =>
  cases sw2 with
  | cons _ _ => exact absurd v5 id
  | nil =>
  obtain rfl : y1 = 113 := by
    have e := Nat.eq_of_beq_eq_true b1
    have e2 : f1.2.1 = y1 := u2
    omega
  obtain rfl : pc1 = 38 := by
    have e := Nat.eq_of_beq_eq_true b2
    have e2 : f1.2.2.1 = pc1 := u3
    omega
  obtain rfl : y2 = 293 := by
    have e := Nat.eq_of_beq_eq_true b3
    have e2 : f2.2.1 = y2 := v2
    omega
  obtain rfl : pc2 = 29 := by
    have e := Nat.eq_of_beq_eq_true b4
    have e2 : f2.2.2.1 = pc2 := v3
    omega
  obtain ⟨Y1, lp1, dp1⟩ := dv_in_ok u4 hp1
  obtain ⟨X1, ln1, dn1⟩ := dv_in_ok u4 hn1
  obtain ⟨I1, li1, di1⟩ := dv_in_ok u4 hi1
  obtain ⟨Y2, lp2, dp2⟩ := dv_in_ok v4 hp2
  obtain ⟨X2, ln2, dn2⟩ := dv_in_ok v4 hn2
  obtain ⟨I2, li2, di2⟩ := dv_in_ok v4 hi2
  have c1 := ae_rg_ok S1 c1
  have c2 := ae_rg_ok S1 c2
  have c3 := ae_rg_ok S1 c3
  have c4 := ae_z_ok S1 c4
  have c5 := ae_rg_ok S1 c5
  have hbv := ae_hi_ok S1 hbv
  rw [ae_sub_ev, dp1.2, dp2.2] at c1
  rw [ae_sub_ev, dn1.2, dn2.2] at c2
  rw [ae_sub_ev, di1.2, di2.2] at c3
  rw [ae_neg_ev, dp1.2] at c4
  rw [dn1.2] at c5 hbv
  obtain rfl : Y2 = Y1 := Int32.toInt_inj.mp (by omega)
  obtain rfl : X2 = X1 := Int32.toInt_inj.mp (by omega)
  obtain rfl : I2 = I1 := Int32.toInt_inj.mp (by omega)
  have hY : Y2 ≠ 0 := fun e => by
    have : Y2.toInt = 0 := by rw [e]; rfl
    omega
  have rgw := dv_rg (X := X2) (Y := Y2) (I := I2) (by omega) (by omega) (by omega)
  have KN : ae_okK (ae_up ρ z.k.1 (dv_w X2 Y2 I2).toInt) (ae_new z.k 0 (b + 1)) := ae_new_ok S1 rgw.1 (by omega)
  have up : ae_up2 ρ z.k (ae_up ρ z.k.1 (dv_w X2 Y2 I2).toInt) (ae_new z.k 0 (b + 1)) := ⟨Nat.le_succ _, ae_up_ag ρ z.k.1 _, KN⟩
  have dw : ae_dn (z.k.1 + 1) (ae_up ρ z.k.1 (dv_w X2 Y2 I2).toInt) (ae_sym z.k.1) (dv_w X2 Y2 I2).toInt := by
    have d := ae_sym_dn (n := z.k.1 + 1) (ρ := ae_up ρ z.k.1 (dv_w X2 Y2 I2).toInt) (Nat.lt_succ_self z.k.1)
    rw [ae_up_at] at d
    exact d
  refine ⟨_, List.mem_singleton.mpr rfl, _, ((d1, 113, 59, lw1, [.int (Int32.ofInt 1), .int (dv_w X2 Y2 I2), .ref 8]) :: cs1, none), ((d2, 293, 47, lw2, [.int (dv_w X2 Y2 I2), .ref 219]) :: cs2, none), h1, h2, up, ⟨KN, ae_k0_up S2 up, ae_hp_ext up.1 up.2.1 S4, ?_, ?_, S7, S8, S9, h0, q1', q2', fun m hm => ae_eo_ext up.1 up.2.1 (q3' m hm)⟩, fun fin => ?_⟩
  · exact ⟨⟨⟨u1, rfl, rfl, ae_lr_ext up.1 up.2.1 u4, ⟨Int32.ofInt 1, rfl, ae_num_dn 1⟩, ⟨dv_w X2 Y2 I2, rfl, dw⟩, rfl, trivial⟩, ap_ff_ext up.1 up.2.1 u6⟩, fun e => by cases e⟩
  · exact ⟨⟨⟨v1, rfl, rfl, ae_lr_ext up.1 up.2.1 v4, ⟨dv_w X2 Y2 I2, rfl, dw⟩, rfl, trivial⟩, ap_ff_ext up.1 up.2.1 v6⟩, fun e => by cases e⟩
  · obtain ⟨a1, e1, a2, e2, w1, w2, rest⟩ := fin
    exact ⟨a1, e1, a2, e2, dv_run1 hY (bo_rf_ok u4 b7) lp1 ln1 li1 w1, dv_run2 hY (bo_rf_ok v4 b8) lp2 ln2 li2 (by rw [dv_same]; exact w2), rest⟩
end DVH

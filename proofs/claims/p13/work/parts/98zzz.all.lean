/-! The new yard is emptied -/
set_option maxRecDepth 20000 in
theorem ac_z0 {L : Nat} {xs : Nat → Int32} {d : Nat} {lw0 : am_L} {h0 : List am_E} {x0 : Int32} (hk : ae_hk false L xs h0) (c0 : am_lk lw0 0 = some (.ref 219)) (ck : am_lk lw0 2 = some (.int x0)) (ex0 : x0.toInt = 0) :
    ∃ h2 lw2, ae_hk false L xs h2 ∧ ae_cpd true 0 0 224 1540 385 L xs h0 h2 ∧ (∀ j, j ≠ 2 → ∀ v, (j + 1 = 2 → v.category = 1) → am_lk lw0 j = some v → am_lk lw2 j = some v) ∧ ∀ n r, am_go L xs n d 261 49 lw2 [] h2 = some r → ∃ n', am_go L xs n' d 261 25 lw0 [] h0 = some r := by
  have f20 : ∀ {i : Nat} (h : List am_E), ae_cpd true 0 0 224 1540 i L xs h0 h → ae_cell L xs h 219 20 = some (.ref 224) := fun h hd => (ae_cpd_no hd (Or.inl (by decide))).trans (ae_fld hk ago_20 (by decide +kernel) (by decide +kernel))
  obtain ⟨h2, lw2, g1, g2, g3⟩ := ae_loop (z := true) (src := 0) (so := 0) (dst := 224) (dO := 1540) (cnt := 385) (k := 2) (y := 261) (pc := 25) (ex := 49) (d := d) (L := L) (xs := xs) (h0 := h0) (C := fun lw => am_lk lw 0 = some (.ref 219))
    (fun lw v hc => ag_lk2 (by decide) (fun _ => rfl) hc)
    (fun i lw h x hi hd hC hl hx => by
      have hcv : (some (Value.int 0) : Option Value) = some (.int 0) := rfl
      have hxd := (show (((Int16.ofInt 1540).toInt32 + x)).toInt = ((1540 + i : Nat) : Int) from (ag_wa (by decide : ((Int16.ofInt 1540).toInt32).toInt = ((1540 : Nat) : Int)) hx (by omega) (by omega)))
      obtain ⟨h1, hw, hst⟩ := ag_st (L := L) (xs := xs) (d := d) (lw := lw) (sw := []) (v := Int32.ofInt 0) agc_261_42 hd.1 aga_224 hxd (by have : (ae_sh 224).2.2 = 1925 := rfl; omega)
      exact ⟨h1, _, hw, hcv, fun n r hr => ⟨n + 12, ag_il agc_261_25 hl (ag_si agc_261_26 rfl (ag_ge0 agc_261_29 (by rw [hx, (by decide : ((Int16.ofInt 385).toInt32).toInt = ((385 : Nat) : Int))]; omega) (ag_al agc_261_32 hC (ag_get agc_261_33 hd.1 ago_20 (f20 h hd) (ag_si agc_261_36 rfl (ag_il agc_261_39 hl (ag_add agc_261_40 (ag_ic agc_261_41 rfl (hst _ _ (ag_inc agc_261_43 (by decide +kernel) hl (ag_go agc_261_46 hr)))))))))))⟩⟩)
    (fun lw h x hd hC hl hx n r hr => ⟨n + 3, ag_il agc_261_25 hl (ag_si agc_261_26 rfl (ag_ge1 agc_261_29 (by rw [hx, (by decide : ((Int16.ofInt 385).toInt32).toInt = ((385 : Nat) : Int))]; omega) (hr)))⟩) (by omega) 385 0 lw0 h0 x0 (by omega) (ae_cpd_0 hk.1) c0 ck (by rw [ex0]; rfl)
  exact ⟨h2, lw2, ae_cp_hk (Or.inl rfl) aemq1_21 aemq2_21 hk g1, g1, g2, g3⟩
noncomputable def ac_zmo : ae_Mo := [(224, 1540, 1924)]
noncomputable def ac_zj : List Nat := [1540, 1541, 1542, 1543, 1544, 1545, 1546, 1547, 1548, 1549, 1550, 1551, 1552, 1561, 1562, 1563, 1564, 1613, 1614, 1615, 1616, 1629, 1630, 1631, 1632, 1633, 1634, 1635, 1636, 1645, 1646, 1647, 1648, 1649, 1650]
noncomputable def ac_hz (z : ab_St) : Option (List ab_St) := match z.t2.1 with
  | f :: r => bif Nat.beq f.2.1 261 && Nat.beq f.2.2.1 25 && ab_nl f.2.2.2.2 && ae_lc z.k f.2.2.2.1 (0, true, 219) && ae_lc z.k f.2.2.2.1 (2, false, 0) then
      (match ae_vd false z.k z.m with
      | some M => (match ae_kept z.k ac_zmo M with
        | some M2 => some [(z.k, (ac_zj.map fun (j : Nat) => (224, ae_num (j : Int), ((0, 0, ae_num 0) : ae_V), false)) ++ M2, z.o, ab_jn ac_zmo z.w, z.T, z.t1, ((f.1, 261, 49, f.2.2.2.1.filter (fun q => !(Nat.beq q.1 2) && !(Nat.beq (q.1 + 1) 2 && Nat.beq q.2.1 1)), []) :: r, none))]
        | none => none)
      | none => none) else none
  | [] => none
section ACZ
variable {L : Nat} {xs : Nat → Int32} {b : Nat → Option Value} {n T : Int} {P : Nat → Int} {Q : Option Value → Option Value → List am_E → List am_E → Prop} {mo : ae_Mo} {ρ : Nat → Int} {g1 g2 : ap_cT} {h1 h2 : List am_E}
theorem ac_cpd_fr {h h' : List am_E} (q : ae_cpd true 0 0 224 1540 385 L xs h h') : ae_fr ac_zmo L xs h h' := by
  intro p j hp
  refine ae_cpd_no q ?_
  by_cases h1 : p = 224
  · by_cases h2 : 1540 ≤ j ∧ j < 1925
    · exfalso
      have : ae_inm ac_zmo p j = true := List.any_eq_true.mpr ⟨(224, 1540, 1924), List.mem_singleton.mpr rfl, by
        rw [h1]
        show (Nat.beq 224 224 && ae_le 1540 (j : Int) && ae_le (j : Int) 1924) = true
        rw [Nat.beq_refl, ae_le_iff.mpr (by omega), ae_le_iff.mpr (by omega)]; rfl⟩
      rw [this] at hp
      cases hp
    · exact Or.inr (by omega)
  · exact Or.inl h1
theorem ac_hz_ok (hf : ae_fok = true) (hmo : ae_sub2 ac_zmo mo = true) {z : ab_St} {o : List ab_St} (q : ac_hz z = some o) (S : ab_sat (ac_G L xs b n T P) L xs ρ z g1 g2 h1 h2) :
    ∃ z' ∈ o, ∃ ρ' g1' g2' h1' h2', ae_up2 ρ z.k ρ' z'.k ∧ ab_sat (ac_G L xs b n T P) L xs ρ' z' g1' g2' h1' h2' ∧ (ap_end mo L xs Q g1' g2' h1' h2' → ap_end mo L xs Q g1 g2 h1 h2) := by
  obtain ⟨S1, S2, S4, S5, S6, S7, S8, S9, h0, r1', r2', r3'⟩ := S
  unfold ac_hz at q
  split at q <;> try (cases q; done)
  rename_i f r ht
  obtain ⟨hb, q⟩ := ae_bif q
  simp only [Bool.and_eq_true] at hb
  obtain ⟨⟨⟨⟨b1, b2⟩, b3⟩, b4⟩, b5⟩ := hb
  split at q <;> try (cases q; done)
  rename_i M hM
  split at q <;> try (cases q; done)
  rename_i M2 hM2
  cases q
  obtain ⟨H1, D1⟩ := ae_vd_ok hf S1 S4 hM
  have kM := ae_hk_of hf (fun e => e) H1 D1
  have l1 := S7.1.1
  have l2 := S8.1.1
  have kA := aq_own_hk false kM S7 l2
  have kB : ae_hk false L xs h2 := aq_own_hk true (by rw [ap_mX_not]; exact kM) S8 l1
  obtain ⟨gf, gv⟩ := g2
  have F1 := S6.1
  rw [ht] at F1
  cases gf with
  | nil => exact absurd F1 id
  | cons c cs =>
    obtain ⟨d, y, pc, lw, sw⟩ := c
    obtain ⟨⟨q1, q2, q3, q4, q5⟩, q6⟩ := F1
    have q2 : f.2.1 = y := q2
    have q3 : f.2.2.1 = pc := q3
    have e1 := Nat.eq_of_beq_eq_true b1
    have e2 := Nat.eq_of_beq_eq_true b2
    obtain rfl : y = 261 := by omega
    obtain rfl : pc = 25 := by omega
    have q5 : ae_sr z.k.1 ρ f.2.2.2.2 sw := q5
    rw [ab_nl_ok b3] at q5
    cases sw with
    | cons _ _ => exact absurd q5 id
    | nil =>
      have q4 : ae_lr z.k.1 ρ f.2.2.2.1 lw := q4
      obtain ⟨p0, c0, c0'⟩ : ∃ p : Nat, am_lk lw 0 = some (.ref p) ∧ (p : Int) = 219 := ae_lc_ok S1 q4 b4
      obtain rfl : p0 = 219 := by omega
      obtain ⟨x0, ck, ex0⟩ : ∃ x : Int32, am_lk lw 2 = some (.int x) ∧ x.toInt = 0 := ae_lc_ok S1 q4 b5
      obtain ⟨e, lw2, w1, w2, w3, w4⟩ := ac_z0 (d := d) kB c0 ck ex0
      have kM' := aq_mixhk kA w1
      have le := w1.1.1
      have fre := ac_cpd_fr w2
      have frm : ae_fr ac_zmo L xs (am_mX2 ap_b false h1 h2) (am_mX2 ap_b false h1 e) := by
        intro p j hp
        cases hsd : am_sd ap_b false p with
        | true => rw [ap_c (s := false) l1 le hsd, ap_c (s := false) l1 l2 hsd]
        | false => rw [ap_cx (s := false) l1 le hsd, ap_cx (s := false) l1 l2 hsd]; exact fre p j hp
      have H2 : ae_hp false z.k.1 ρ L xs M2 (am_mX2 ap_b false h1 e) := ae_kept_ok hf (cx := false) (fun h => by cases h) S1 H1 kM' frm hM2
      refine ⟨_, List.mem_singleton.mpr rfl, ρ, g1, ((d, 261, 49, lw2, []) :: cs, none), h1, e, ⟨Nat.le_refl _, ae_ag_rf _ _, S1⟩, ⟨S1, S2, ?_, S5, ⟨⟨⟨q1, rfl, rfl, fun p hp => ?_, trivial⟩, q6⟩, fun e => by cases e⟩, S7, aq_hs_of true w1, ?_, h0, r1', ab_fr_jn r2' frm, r3'⟩, fun fin => ?_⟩
      · refine ae_hp_add H2 (fun m hm => ?_)
        obtain ⟨j, hj, rfl⟩ := List.mem_map.mp hm
        have hj2 : 1540 ≤ j ∧ j < 1925 := by
          exact (by decide : ∀ i ∈ ac_zj, 1540 ≤ i ∧ i < 1925) j hj
        refine ⟨j, .int 0, ae_num_dn _, ?_, 0, rfl, trivial, rfl⟩
        rw [show ae_cell L xs (am_mX2 ap_b false h1 e) 224 j = ae_cell L xs e 224 j from ap_cx (s := false) l1 le rfl]
        have := ae_cpd_at w2 (i := j - 1540) (by omega)
        rw [show 1540 + (j - 1540) = j by omega] at this
        exact this
      · obtain ⟨m1, m2⟩ := List.mem_filter.mp hp
        obtain ⟨v, v1, v2⟩ := q4 p m1
        simp only [Bool.and_eq_true] at m2
        refine ⟨v, w3 p.1 (fun h => ?_) v (fun h => ?_) v1, v2⟩
        · have := m2.1; rw [h] at this; exact absurd this (by decide)
        · cases hk : Nat.beq p.2.1 1 with
          | true =>
            have h9 := m2.2
            rw [hk, show Nat.beq (p.1 + 1) 2 = true by rw [h]; rfl] at h9
            exact absurd h9 (by decide)
          | false =>
            obtain ⟨pi, pa, pb, pe⟩ := p
            unfold ae_ok at v2
            match pa, hk, v2 with
            | 0, _, v2 => obtain ⟨y, rfl, -⟩ := v2; rfl
            | 1, hk, _ => cases hk
            | 2, _, v2 => have v2 : v = .ref pb := v2; rw [v2]; rfl
            | 3, _, v2 => have v2 : v = .null := v2; rw [v2]; rfl
            | 4, _, v2 => obtain ⟨y, -, v2⟩ := v2; rw [v2]; rfl
            | k + 5, _, v2 => exact absurd v2 id
      · exact ac_G_fr ⟨fun _ => rfl, fun _ => rfl, fun _ => rfl, fun _ => rfl, fun j hj => rfl, fun j hj => rfl⟩ S9 frm
      · obtain ⟨v1, f1', v2, f2', p1, p2, p3, p4, p5, p6⟩ := fin
        refine ⟨v1, f1', v2, f2', p1, ?_, p3, ap_sm_tr (fun p j hp => fre p j ?_) p4, ae_fr_tr (fun p j hp => frm p j (ae_sub2_ok hmo hp)) p5, p6⟩
        · exact am_fn_of (f' := (d, 261, 49, lw2, [])) (h' := e) (fun m x hm => w4 m x hm) p2
        · cases hin : ae_inm ac_zmo p j with
          | false => rfl
          | true =>
            obtain ⟨q, hq, h3⟩ := List.any_eq_true.mp hin
            rw [List.mem_singleton.mp hq] at h3
            simp only [Bool.and_eq_true] at h3
            rw [← Nat.eq_of_beq_eq_true h3.1.1] at hp
            exact absurd hp (by decide)
/-! which of them -/
noncomputable def ac_tkl (k : ae_K) (t : ap_T) : Bool := match t.1 with
  | f :: _ => (match ab_cell k f with
    | some c => ae_kc c.2 && ((Nat.beq c.1 3 && ae_le 11 c.2.1 && ae_le c.2.1 16) || (Nat.beq c.1 219 && (ae_ie c.2.1 14 || ae_ie c.2.1 15 || (ae_le 17 c.2.1 && ae_le c.2.1 19))))
    | none => false)
  | [] => false
noncomputable def ac_uns (z : ab_St) : Bool := match ae_fd z.m 3 (ae_num 16) with
  | some _ => false
  | none => true
noncomputable def ac_cl (t : ap_T) (a : Nat) : Bool := match t.1 with
  | f :: _ => ac_call f a
  | [] => false
noncomputable def ac_isw (t : ap_T) : Bool := ac_wl.any fun p => ac_cl t p.1
noncomputable def ac_isz (t : ap_T) : Bool := match t.1 with
  | f :: _ => Nat.beq f.2.1 261 && Nat.beq f.2.2.1 25
  | [] => false
noncomputable def ac_hk (N : Int) (z : ab_St) : Option (List ab_St) :=
  bif ac_cl z.t1 58 && ac_cl z.t2 219 then ac_ha N z
  else bif ac_isz z.t2 then ac_hz z
  else bif ac_isw z.t2 && !(ac_uns z) then ac_hw z
  else ac_hs z
/-- what the thread that would go on is at -/
noncomputable def ac_hf2 (z : ab_St) (s : Bool) : Bool := bif s then ac_isz z.t2 || ac_isw z.t2 || (ac_uns z && ac_tkl z.k z.t2) else ac_uns z && ac_tkl z.k z.t1
noncomputable def ac_wtt (wt : Nat → Nat → Bool) (t : ap_T) : Bool := match t.1 with
  | [] => true
  | f :: _ => wt f.2.1 f.2.2.1
noncomputable def ac_hf (wt : Nat → Nat → Bool) (f1 f2 : Bool) (z : ab_St) : Bool := (f1 && f2 && ac_cl z.t1 58 && ac_cl z.t2 219) ||
  (bif !f1 && ac_wtt wt z.t1 then (bif !f2 && ac_wtt wt z.t2 then false else ac_hf2 z true) else ac_hf2 z false)
theorem ac_HOK {N : Int} (hr : ae_rok = true) (hf : ae_fok = true) (hL : L ≤ 3072) (hN : n ≤ N) {W : ab_W} (hW : W.hk = ac_hk N) (h1 : ae_sub2 ac_tmo W.mo = true) (h2 : ae_sub2 ac_zmo W.mo = true) : ab_HOK W (ac_G L xs b n T P) L xs Q := by
  intro z o ρ g1 g2 e1 e2 q S
  rw [hW] at q
  unfold ac_hk at q
  cases c1 : ac_cl z.t1 58 && ac_cl z.t2 219 with
  | true => rw [c1] at q; exact ac_ha_ok hN hr hf hL h1 q S
  | false =>
    rw [c1] at q
    cases c2 : ac_isz z.t2 with
    | true => rw [c2] at q; exact ac_hz_ok hf h2 q S
    | false =>
      rw [c2] at q
      cases c3 : ac_isw z.t2 && !(ac_uns z) with
      | true => rw [c3] at q; exact ac_hw_ok hr hf hL q S
      | false =>
        rw [c3] at q
        obtain ⟨z', m, ρ', u, S'⟩ := ac_hs_ok hr q S
        exact ⟨z', m, ρ', g1, g2, e1, e2, u, S', fun e => e⟩
end ACZ

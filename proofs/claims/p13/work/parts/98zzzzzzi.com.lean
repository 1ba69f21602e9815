/-! the reference copies the told days to their place -/
theorem rb_cc0 {L : Nat} {xs : Nat → Int32} {d : Nat} {lw0 : am_L} {h0 : List am_E} {x0 : Int32} (hk : ae_hk false L xs h0) (c0 : am_lk lw0 0 = some (.ref 219)) (ck : am_lk lw0 2 = some (.int x0)) (ex0 : x0.toInt = 0) :
    ∃ (nn : Nat) (ns : Int32) (h2 : List am_E) (lw2 : am_L), nn < 31 ∧ ns.toInt = (nn : Int) ∧ ae_cell L xs h0 219 25 = some (.int ns) ∧ ae_hk false L xs h2 ∧ ae_cpd false 224 1651 224 111 (9 * nn) L xs h0 h2 ∧ (∀ j, j ≠ 2 → ∀ v, (j + 1 = 2 → v.category = 1) → am_lk lw0 j = some v → am_lk lw2 j = some v) ∧ ∀ n r, am_go L xs n d 265 116 lw2 [] h2 = some r → ∃ n', am_go L xs n' d 265 80 lw0 [] h0 = some r := by
  have f20 : ∀ {i : Nat} (h : List am_E), ae_cpd false 224 1651 224 111 i L xs h0 h → ae_cell L xs h 219 20 = some (.ref 224) := fun h hd => (ae_cpd_no hd (Or.inl (by decide))).trans (ae_fld hk ago_20 (by decide +kernel) (by decide +kernel))
  obtain ⟨ns, fc, en1, en2⟩ := ae_nmb (p := 219) (b := 25) (lo := 0) (hi := 30) hk (by omega) (by decide) (by decide) (by decide +kernel)
  obtain ⟨nn, hnn⟩ := Int.eq_ofNat_of_zero_le en1
  have e9 : ((Int8.ofInt 9).toInt32 * ns).toInt = ((9 * nn : Nat) : Int) := by rw [ae_w_mul, hnn, (by decide : ((Int8.ofInt 9).toInt32).toInt = 9), ae_w32_rg (by omega) (by omega)]; omega
  have f25 : ∀ {i : Nat} (h : List am_E), ae_cpd false 224 1651 224 111 i L xs h0 h → ae_cell L xs h 219 25 = some (.int ns) := fun h hd => (ae_cpd_no hd (Or.inl (by decide))).trans fc
  obtain ⟨h2, lw2, g1, g2, g3⟩ := ae_loop (z := false) (src := 224) (so := 1651) (dst := 224) (dO := 111) (cnt := 9 * nn) (k := 2) (y := 265) (pc := 80) (ex := 116) (d := d) (L := L) (xs := xs) (h0 := h0) (C := fun lw => am_lk lw 0 = some (.ref 219))
    (fun lw v hc => ag_lk2 (by decide) (fun _ => rfl) hc)
    (fun i lw h x hi hd hC hl hx => by
      obtain ⟨v, hcv⟩ := ae_aie (L := L) (xs := xs) hk.1 (p := 224) (j := 1651 + i) aga_224 (by have : (ae_sh 224).2.2 = 1925 := rfl; omega)
      have hcs : ae_cell L xs h 224 (1651 + i) = some (.int v) := (ae_cpd_no hd (by omega)).trans hcv
      have hxd := (show (((Int8.ofInt 111).toInt32 + x)).toInt = ((111 + i : Nat) : Int) from (ag_wa (by decide : ((Int8.ofInt 111).toInt32).toInt = ((111 : Nat) : Int)) hx (by omega) (by omega)))
      have hxs := (show (((Int16.ofInt 1651).toInt32 + x)).toInt = ((1651 + i : Nat) : Int) from (ag_wa (by decide : ((Int16.ofInt 1651).toInt32).toInt = ((1651 : Nat) : Int)) hx (by omega) (by omega)))
      obtain ⟨h1, hw, hst⟩ := ag_st (L := L) (xs := xs) (d := d) (lw := lw) (sw := []) (v := v) agc_265_109 hd.1 aga_224 hxd (by have : (ae_sh 224).2.2 = 1925 := rfl; omega)
      exact ⟨h1, _, hw, hcv, fun n r hr => ⟨n + 20, ag_il agc_265_80 hl (ag_bi agc_265_81 rfl (ag_al agc_265_83 hC (ag_get agc_265_84 hd.1 ago_25 (f25 h hd) (ag_mul agc_265_87 (ag_ge0 agc_265_88 (by rw [hx, e9]; omega) (ag_al agc_265_91 hC (ag_get agc_265_92 hd.1 ago_20 (f20 h hd) (ag_bi agc_265_95 rfl (ag_il agc_265_97 hl (ag_add agc_265_98 (ag_al agc_265_99 hC (ag_get agc_265_100 hd.1 ago_20 (f20 h hd) (ag_si agc_265_103 rfl (ag_il agc_265_106 hl (ag_add agc_265_107 (ag_ia agc_265_108 hd.1 aga_224 hxs (by have : (ae_sh 224).2.2 = 1925 := rfl; omega) hcs (hst _ _ (ag_inc agc_265_110 (by decide +kernel) hl (ag_go agc_265_113 hr)))))))))))))))))))⟩⟩)
    (fun lw h x hd hC hl hx n r hr => ⟨n + 6, ag_il agc_265_80 hl (ag_bi agc_265_81 rfl (ag_al agc_265_83 hC (ag_get agc_265_84 hd.1 ago_25 (f25 h hd) (ag_mul agc_265_87 (ag_ge1 agc_265_88 (by rw [hx, e9]; omega) (hr))))))⟩) (by omega) (9 * nn) 0 lw0 h0 x0 (by omega) (ae_cpd_0 hk.1) c0 ck (by rw [ex0]; rfl)
  exact ⟨nn, ns, h2, lw2, by omega, hnn, fc, ae_cp_hk (Or.inr ⟨by decide, by decide, by have : (ae_sh 224).2.2 = 1925 := rfl; omega⟩) (aemq1_20 nn (by omega)) (aemq2_20 nn (by omega)) hk g1, g1, g2, g3⟩
/-- a condition that says that the index is below ns -/
noncomputable def rb_gn (k : ae_K) (O : List ae_M) (ns : ae_X) (g : ab_Gd) : Bool := ae_ie g.1 0 && ae_ie g.2.1 (-1) && (match g.2.2 with
  | [u] => ae_ie u.1 1 && Nat.beq u.2.2.2 0 && (match ab_ov k O u.2.1 (ae_num (u.2.2.1 : Int)) with
    | some x => ae_rg k (ae_sub x ns) 0 0
    | none => false)
  | _ => false)
/-- a tie of the told steps -/
noncomputable def rb_cg (k : ae_K) (O : List ae_M) (w : ae_Mo) (ns : ae_X) (t : ab_Ti) : Bool := Nat.beq t.1 224 && (Nat.ble 1651 t.2.1 && Nat.blt t.2.1 1660) && Nat.beq t.st 9 && Nat.ble t.2.2.1 30 && rb_kl w 224 111 270 t.2.2.1 t.2.2.2.1.2 && t.2.2.2.2.1.all (fun g => rb_kl w 224 111 270 t.2.2.1 g.2.2) && t.2.2.2.2.1.any (rb_gn k O ns)
noncomputable def rb_ct (t : ab_Ti) : ab_Ti := (t.1, t.2.1 - 1540, t.2.2.1, t.2.2.2.1, t.2.2.2.2.1, t.2.2.2.2.2)
noncomputable def rb_cT (k : ae_K) (O : List ae_M) (w : ae_Mo) (ns : ae_X) (T : List ab_Ti) : List ab_Ti := T.filter (rb_kt w 224 111 270) ++ (T.filter (rb_cg k O w ns)).map rb_ct
section RBG
variable {L : Nat} {xs : Nat → Int32} {ρ : Nat → Int} {k : ae_K} {O : List ae_M} {w : ae_Mo} {h0 h h' : List am_E} {nn : Nat}
theorem rb_cT_ok (hK : ae_okK ρ k) (hO : ∀ m ∈ O, ae_eo k.1 ρ L xs h0 m) (hF : ae_fr w L xs h0 h) (l0 : 224 - 1 < h0.length) (l1 : 224 - 1 < h'.length) (hu : ab_np w 224 1651 1920 = true) (hn : nn < 31) (C1 : ∀ i, i < 9 * nn → ae_cell L xs h' 224 (111 + i) = ae_cell L xs h 224 (1651 + i)) (C2 : ∀ q j, ¬ (q = 224 ∧ 111 ≤ j ∧ j < 111 + 9 * nn) → ae_cell L xs h' q j = ae_cell L xs h q j) {ns : ae_X} (hns : ae_dn k.1 ρ ns (nn : Int)) {T : List ab_Ti} (hT : ab_RI T (ab_cv L xs h0)) : ab_RI (rb_cT k O w ns T) (ab_cv L xs (rb_set h0 h' 224)) := by
  have C2' : ∀ q j, ¬ (q = 224 ∧ 111 ≤ j ∧ j < 111 + 270) → ae_cell L xs h' q j = ae_cell L xs h q j := fun q j hh => C2 q j fun ⟨a, b, c⟩ => hh ⟨a, b, by omega⟩
  intro t ht i hi
  rcases List.mem_append.mp ht with ht | ht
  · obtain ⟨m1, m2⟩ := List.mem_filter.mp ht
    unfold rb_kt at m2
    simp only [Bool.and_eq_true] at m2
    obtain ⟨⟨k1, k2⟩, k3⟩ := m2
    rcases hT t m1 i hi with ⟨g, hg, hz⟩ | hz
    · refine Or.inl ⟨g, hg, ?_⟩
      unfold ab_gd at hz ⊢
      rw [rb_kl_ok (by omega) hF l0 l1 C2' hi (List.all_eq_true.mp k3 g hg)]
      exact hz
    · refine Or.inr ?_
      rw [rb_kl_ok (by omega) hF l0 l1 C2' hi k2, rb_k1_ok (by omega) hF l0 l1 C2' hi k1]
      exact hz
  · obtain ⟨u, m1, rfl⟩ := List.mem_map.mp ht
    obtain ⟨m1, m2⟩ := List.mem_filter.mp m1
    have hi : i < u.2.2.1 := hi
    unfold rb_cg at m2
    simp only [Bool.and_eq_true] at m2
    obtain ⟨⟨⟨⟨⟨⟨a1, a2, a3⟩, a4⟩, a5⟩, a6⟩, a7⟩, a8⟩ := m2
    have a1 := Nat.eq_of_beq_eq_true a1
    have a2 := Nat.le_of_ble_eq_true a2
    have a3 := Nat.blt_eq.mp a3
    have a4 := Nat.eq_of_beq_eq_true a4
    have a5 := Nat.le_of_ble_eq_true a5
    have gd : ∀ g ∈ u.2.2.2.2.1, ab_gd (ab_cv L xs (rb_set h0 h' 224)) i g = ab_gd (ab_cv L xs h0) i g := fun g hg => by
      unfold ab_gd
      rw [rb_kl_ok (by omega) hF l0 l1 C2' hi (List.all_eq_true.mp a7 g hg)]
    by_cases hin : i < nn
    · rcases hT u m1 i hi with ⟨g, hg, hz⟩ | hz
      · exact Or.inl ⟨g, hg, by rw [gd g hg]; exact hz⟩
      · refine Or.inr ?_
        have e9 : (rb_ct u).st = 9 := by simp only [rb_ct]; exact a4
        have e1 : (rb_ct u).1 = 224 := by simp only [rb_ct]; exact a1
        have e2 : (rb_ct u).2.1 = u.2.1 - 1540 := by simp only [rb_ct]
        have e3 : (rb_ct u).2.2.2.1 = u.2.2.2.1 := by simp only [rb_ct]
        rw [e1, e2, e3, e9, rb_kl_ok (by omega) hF l0 l1 C2' hi a6, ← hz, a1, a4]
        have key : ae_cell L xs (rb_set h0 h' 224) 224 (u.2.1 - 1540 + 9 * i) = ae_cell L xs h0 224 (u.2.1 + 9 * i) := by
          rw [rb_at (by omega) l0 l1, show u.2.1 - 1540 + 9 * i = 111 + (u.2.1 - 1651 + 9 * i) by omega, C1 _ (by omega), show 1651 + (u.2.1 - 1651 + 9 * i) = u.2.1 + 9 * i by omega, hF 224 _ (ab_np_ok (by omega) (by omega) hu)]
        unfold ab_cv
        rw [key]
    · obtain ⟨g, hg, q⟩ := List.any_eq_true.mp a8
      refine Or.inl ⟨g, hg, ?_⟩
      rw [gd g hg]
      unfold rb_gn at q
      rw [Bool.and_eq_true, Bool.and_eq_true] at q
      obtain ⟨⟨g1, g2⟩, q⟩ := q
      have g1 := ae_ie_ok g1
      have g2 := ae_ie_ok g2
      split at q
      · rename_i v hv
        rw [Bool.and_eq_true, Bool.and_eq_true] at q
        obtain ⟨⟨v1, v2⟩, q⟩ := q
        have v1 := ae_ie_ok v1
        have v2 := Nat.eq_of_beq_eq_true v2
        split at q
        · rename_i x hx
          have dx := ab_ov_ok hK hO (ae_num_dn (v.2.2.1 : Int)) hx
          have r := ae_rg_ok hK q
          rw [ae_sub_ev, dx.2, hns.2] at r
          unfold ab_gd
          rw [hv, g1, g2]
          show (0 : Int) + -1 * (i : Int) + (v.1 * ab_cv L xs h0 v.2.1 (v.2.2.1 + v.2.2.2 * i) + 0) ≤ 0
          rw [v1, v2, Nat.zero_mul, Nat.add_zero]
          omega
        · cases q
      · cases q
end RBG
noncomputable def rb_cmo : ae_Mo := [(224, 111, 380)]
noncomputable def rb_cc (z : ab_St) : Option (List ab_St) := match z.t2.1 with
  | f :: r => bif Nat.beq f.2.1 265 && Nat.beq f.2.2.1 80 && ab_nl f.2.2.2.2 && ae_lc z.k f.2.2.2.1 (0, true, 219) && ae_lc z.k f.2.2.2.1 (2, false, 0) && ab_np z.w 224 1651 1920 then
      (ab_cux z.k z.m z.o z.w 219 (ae_num 25)).bind fun ns => (ae_vd false z.k z.m).bind fun M => (ae_kept z.k rb_cmo M).map fun M2 => [(z.k, M2, z.o.filter (fun m => !(Nat.beq m.1 224)), z.w, rb_cT z.k z.o z.w ns z.T, z.t1, ((f.1, 265, 116, f.2.2.2.1.filter (fun q => !(Nat.beq q.1 2) && !(Nat.beq (q.1 + 1) 2 && Nat.beq q.2.1 1)), []) :: r, none))]
      else none
  | [] => none
section RBH
variable {L : Nat} {xs : Nat → Int32} {ρ : Nat → Int}
theorem rb_cc_ok {mo : ae_Mo} {G : List am_E → Prop} {Q : Option Value → Option Value → List am_E → List am_E → Prop} {Rr : Nat} {r0 : Nat → Int} (hf : ae_fok = true) (hG : ∀ h h', G h → ae_fr rb_cmo L xs h h' → G h') (hmo : ae_sub2 rb_cmo mo = true) : bh_ok mo G L xs Q Rr r0 rb_cc := by
  intro z o ρ g1 g2 h1 h2 q S s1 s2
  obtain ⟨S1, S2, S4, S5, S6, S7, S8, S9, h0, r1', r2', r3'⟩ := S
  unfold rb_cc at q
  split at q <;> try (cases q; done)
  rename_i f r ht
  obtain ⟨hb, q⟩ := ae_bif q
  simp only [Bool.and_eq_true] at hb
  obtain ⟨⟨⟨⟨⟨b1, b2⟩, b3⟩, b4⟩, b5⟩, b6⟩ := hb
  obtain ⟨ns, hns, q⟩ := Option.bind_eq_some_iff.mp q
  obtain ⟨M, hM, q⟩ := Option.bind_eq_some_iff.mp q
  obtain ⟨M2, hM2, q⟩ := Option.map_eq_some_iff.mp q
  subst q
  obtain ⟨H1, D1⟩ := ae_vd_ok hf S1 S4 hM
  have kM := ae_hk_of hf (fun e => e) H1 D1
  have l1 := S7.1.1
  have l2 := S8.1.1
  have kA := aq_own_hk false kM S7 l2
  have kB : ae_hk false L xs h2 := aq_own_hk true (by rw [ap_mX_not]; exact kM) S8 l1
  obtain ⟨gf, gv⟩ := g2
  have F1 := S6.1
  rw [ht] at F1
  cases gf with
  | nil => exact absurd F1 id
  | cons c cs =>
    obtain ⟨d, y, pc, lw, sw⟩ := c
    obtain ⟨⟨q1, q2, q3, q4, q5⟩, q6⟩ := F1
    have q2 : f.2.1 = y := q2
    have q3 : f.2.2.1 = pc := q3
    have e1 := Nat.eq_of_beq_eq_true b1
    have e2 := Nat.eq_of_beq_eq_true b2
    obtain rfl : y = 265 := by omega
    obtain rfl : pc = 80 := by omega
    have q5 : ae_sr z.k.1 ρ f.2.2.2.2 sw := q5
    rw [ab_nl_ok b3] at q5
    cases sw with
    | cons _ _ => exact absurd q5 id
    | nil =>
      have q4 : ae_lr z.k.1 ρ f.2.2.2.1 lw := q4
      obtain ⟨p0, c0, c0'⟩ : ∃ p : Nat, am_lk lw 0 = some (.ref p) ∧ (p : Int) = 219 := ae_lc_ok S1 q4 b4
      obtain rfl : p0 = 219 := by omega
      obtain ⟨x0, ck, ex0⟩ : ∃ x : Int32, am_lk lw 2 = some (.int x) ∧ x.toInt = 0 := ae_lc_ok S1 q4 b5
      obtain ⟨nn, nv, e, lw2, n1, n2, n3, w1, w2, w3, w4⟩ := rb_cc0 (d := d) kB c0 ck ex0
      have kM' := aq_mixhk kA w1
      have le := w1.1.1
      obtain ⟨C1, C2⟩ := rb_cpm (s := true) (hx := h1) S8.1 S7.1 rfl rfl w2
      rw [ap_mX_not] at C1 C2
      have C1 : ∀ i, i < 9 * nn → ae_cell L xs (am_mX2 ap_b false h1 e) 224 (111 + i) = ae_cell L xs (am_mX2 ap_b false h1 h2) 224 (1651 + i) := C1
      have C2 : ∀ q j, ¬ (q = 224 ∧ 111 ≤ j ∧ j < 111 + 9 * nn) → ae_cell L xs (am_mX2 ap_b false h1 e) q j = ae_cell L xs (am_mX2 ap_b false h1 h2) q j := C2
      have frm : ae_fr rb_cmo L xs (am_mX2 ap_b false h1 h2) (am_mX2 ap_b false h1 e) := rb_cpfr (src := 224) (so := 1651) C2 (by omega) (by omega)
      have H2 : ae_hp false z.k.1 ρ L xs M2 (am_mX2 ap_b false h1 e) := ae_kept_ok hf (cx := false) (fun h => by cases h) S1 H1 kM' frm hM2
      have dns : ae_dn z.k.1 ρ ns (nn : Int) := by
        have d := ab_cux_ok r2' ⟨S1, S4, r3'⟩ (ae_num_dn (25 : Int)) (j := 25) hns
        have e : ab_cv L xs (am_mX2 ap_b false h1 h2) 219 25 = nv.toInt := by
          show ab_vz (ae_cell L xs (am_mX2 ap_b false h1 h2) 219 25) = _
          rw [ap_cx (s := false) l1 l2 rfl, n3]; rfl
        rw [e, n2] at d
        exact d
      have hin : ae_inm z.w 224 1651 = false := ab_np_ok (Nat.le_refl _) (by omega) b6
      have hl0 : 224 - 1 < h0.length := rb_l0 (by omega) (by decide) S4.1 (by decide +kernel) hin r2'
      have hl1 : 224 - 1 < (am_mX2 ap_b false h1 e).length := by rw [kM'.1.1]; decide
      refine ⟨_, List.mem_singleton.mpr rfl, ρ, g1, ((d, 265, 116, lw2, []) :: cs, none), h1, e, ⟨Nat.le_refl _, ae_ag_rf _ _, S1⟩, ⟨S1, S2, H2, S5, ⟨⟨⟨q1, rfl, rfl, fun p hp => ?_, trivial⟩, q6⟩, fun e => by cases e⟩, S7, aq_hs_of true w1, hG _ _ S9 frm, rb_set h0 (am_mX2 ap_b false h1 e) 224, rb_cT_ok S1 r3' r2' hl0 hl1 b6 n1 C1 C2 dns r1', fun q j hj => ?_, fun m hm => ?_⟩, fun fin => ?_⟩
      · obtain ⟨m1, m2⟩ := List.mem_filter.mp hp
        obtain ⟨v, v1, v2⟩ := q4 p m1
        simp only [Bool.and_eq_true] at m2
        refine ⟨v, w3 p.1 (fun h => ?_) v (fun h => ?_) v1, v2⟩
        · have := m2.1; rw [h] at this; exact absurd this (by decide)
        · cases hk : Nat.beq p.2.1 1 with
          | true =>
            have h9 := m2.2
            rw [hk, show Nat.beq (p.1 + 1) 2 = true by rw [h]; rfl] at h9
            exact absurd h9 (by decide)
          | false =>
            obtain ⟨pi, pa, pb, pe⟩ := p
            unfold ae_ok at v2
            match pa, hk, v2 with
            | 0, _, v2 => obtain ⟨y, rfl, -⟩ := v2; rfl
            | 1, hk, _ => cases hk
            | 2, _, v2 => have v2 : v = .ref pb := v2; rw [v2]; rfl
            | 3, _, v2 => have v2 : v = .null := v2; rw [v2]; rfl
            | 4, _, v2 => obtain ⟨y, -, v2⟩ := v2; rw [v2]; rfl
            | k + 5, _, v2 => exact absurd v2 id
      · by_cases hq : q = 224
        · subst hq; exact (rb_at (by omega) hl0 hl1 j).symm
        · rw [rb_ne (by omega) hq, C2 q j (fun h => hq h.1)]
          exact r2' q j hj
      · obtain ⟨m1, m2⟩ := List.mem_filter.mp hm
        obtain ⟨j, v, d, c, o⟩ := r3' m m1
        have hq : m.1 ≠ 224 := fun h => by rw [h, Nat.beq_refl] at m2; cases m2
        exact ⟨j, v, d, by rw [rb_ne (by omega) hq]; exact c, o⟩
      · obtain ⟨v1, f1', v2, f2', p1, p2, p3, p4, p5, p6⟩ := fin
        refine ⟨v1, f1', v2, f2', p1, am_fn_of (f' := (d, 265, 116, lw2, [])) (h' := e) (fun m x hm => w4 m x hm) p2, p3, ap_sm_tr (fun p j hp => ae_cpd_no w2 (Or.inl fun h => ?_)) p4, ae_fr_tr (fun p j hp => frm p j (ae_sub2_ok hmo hp)) p5, p6⟩
        rw [h] at hp
        exact absurd hp (by decide)
end RBH

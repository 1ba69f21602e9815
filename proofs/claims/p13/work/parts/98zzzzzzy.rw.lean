/-! Rows that the reference copies: ties go along -/
noncomputable def rb_r3 (a b : Nat × Int × Int) : Bool := Nat.beq a.1 b.1 && ae_ie a.2.1 b.2.1 && ae_ie a.2.2 b.2.2
theorem rb_r3_ok (a b : Nat × Int × Int) (q : rb_r3 a b = true) : a = b := by
  obtain ⟨a1, a2, a3⟩ := a
  obtain ⟨b1, b2, b3⟩ := b
  unfold rb_r3 at q
  simp only [Bool.and_eq_true] at q
  have e1 : a1 = b1 := Nat.eq_of_beq_eq_true q.1.1
  have e2 : a2 = b2 := ae_ie_ok q.1.2
  have e3 : a3 = b3 := ae_ie_ok q.2
  rw [e1, e2, e3]
noncomputable def rb_m1 (m : ae_Mc) (js : List (Nat × Nat)) (z : ab_St) (f : ap_F) (r : List ap_F) : Option (List ab_St) := match m.2.2.2.2.2.2 with
  | [t] => bif Nat.beq t.1 t.2.2.1 && ab_ql rb_r3 m.2.2.2.2.2.1 [(t.1, (t.2.2.2.1 : Int), ((t.2.2.2.1 + t.2.2.2.2 : Nat) : Int) - 1)] && Nat.blt 0 t.1 && Nat.ble t.1 ae_np && Nat.blt t.2.1 (ae_sh t.1).2.2 && !(ae_inm z.w t.1 t.2.1) then
      (ab_lds z.T z.w (ad_es js) z.k z.m z.o).bind fun y => (ae_vd false y.1 y.2.1).bind fun M1 => (ae_kept y.1 m.2.2.2.2.2.1 M1).bind fun M2 =>
        some [(y.1, m.2.2.2.2.2.2.flatMap (fun t => M1.filterMap fun e => ad_tr2 y.1 e t) ++ M2, y.2.2.filter (rb_om z.w t.1 t.2.2.2.1 t.2.2.2.2), z.w, rb_T z.w t.1 t.2.1 t.2.2.2.2 t.1 t.2.2.2.1 z.T, z.t1, ((f.1, f.2.1, m.2.2.1, ad_rm m.2.2.2.1 f.2.2.2.1, []) :: r, none))]
      else none
  | _ => none
noncomputable def rb_hm (ms : List (ae_Mc × List (Nat × Nat))) (z : ab_St) : Option (List ab_St) := match z.t2.1 with
  | f :: r => bif ab_nl f.2.2.2.2 then (match ms.find? fun m => ad_at m.1 z f with
    | some m => rb_m1 m.1 m.2 z f r
    | none => none) else none
  | [] => none
section RBM
variable {L : Nat} {xs : Nat → Int32} {Q : Option Value → Option Value → List am_E → List am_E → Prop} {mo : ae_Mo} {ρ : Nat → Int} {g1 g2 : ap_cT} {h1 h2 : List am_E} {G : List am_E → Prop}
theorem rb_hm_ok (hr : ae_rok = true) (hf : ae_fok = true) (hL : L ≤ 3072) {ms : List (ae_Mc × List (Nat × Nat))} (hms : ∀ m ∈ ms, ae_MOK m.1 ∧ ad_mok mo m.1 = true ∧ ∀ h h', G h → ae_fr m.1.2.2.2.2.2.1 L xs h h' → G h') {z : ab_St} {o : List ab_St} (q : rb_hm ms z = some o) (S : ab_sat G L xs ρ z g1 g2 h1 h2) :
    ∃ z' ∈ o, ∃ ρ' g1' g2' h1' h2', ae_up2 ρ z.k ρ' z'.k ∧ ab_sat G L xs ρ' z' g1' g2' h1' h2' ∧ (ap_end mo L xs Q g1' g2' h1' h2' → ap_end mo L xs Q g1 g2 h1 h2) := by
  obtain ⟨S1, S2, S4, S5, S6, S7, S8, S9, h0, r1', r2', r3'⟩ := S
  unfold rb_hm at q
  split at q <;> try (cases q; done)
  rename_i f r ht
  obtain ⟨hst, q⟩ := ae_bif q
  split at q <;> try (cases q; done)
  rename_i m hm
  obtain ⟨mM, mB, mG⟩ := hms m (List.mem_of_find?_eq_some hm)
  have hat := List.find?_some hm
  unfold ad_at at hat
  simp only [Bool.and_eq_true] at hat
  obtain ⟨⟨a1, a2⟩, a3⟩ := hat
  obtain ⟨m, js⟩ := m
  have mM : ae_MOK m := mM
  have mB : ad_mok mo m = true := mB
  have mG : ∀ h h', G h → ae_fr m.2.2.2.2.2.1 L xs h h' → G h' := mG
  have q : rb_m1 m js z f r = some o := q
  unfold ad_mok at mB
  rw [Bool.and_eq_true, Bool.and_eq_true] at mB
  obtain ⟨⟨mB1, mB2⟩, mB3⟩ := mB
  unfold rb_m1 at q
  split at q <;> try (cases q; done)
  rename_i tt htt
  obtain ⟨hbb, q⟩ := ae_bif q
  simp only [Bool.and_eq_true] at hbb
  obtain ⟨⟨⟨⟨⟨x1, x2⟩, x3⟩, x4⟩, x5⟩, x6⟩ := hbb
  obtain ⟨y, q1, q⟩ := Option.bind_eq_some_iff.mp q
  obtain ⟨M1, q2, q⟩ := Option.bind_eq_some_iff.mp q
  obtain ⟨M2, q3, q⟩ := Option.bind_eq_some_iff.mp q
  cases q
  obtain ⟨ρ1, u, H1, O1⟩ := ab_lds_ok hr r1' r2' S1 S4 r3' q1
  obtain ⟨H2, D2⟩ := ae_vd_ok hf u.2.2 H1 q2
  have kM := ae_hk_of hf (fun e => e) H2 D2
  have l1 := S7.1.1
  have l2 := S8.1.1
  have kB : ae_hk false L xs h2 := aq_own_hk true (by rw [ap_mX_not]; exact kM) S8 l1
  have kA := aq_own_hk false kM S7 l2
  obtain ⟨gf, gv⟩ := g2
  have F1 := S6.1
  rw [ht] at F1
  cases gf with
  | nil => exact absurd F1 id
  | cons c cs =>
    obtain ⟨d, yy, pc, lw, sw⟩ := c
    obtain ⟨⟨p1, p2, p3, p4, p5⟩, p6⟩ := F1
    have p2 : f.2.1 = yy := p2
    have p3 : f.2.2.1 = pc := p3
    have e1 := Nat.eq_of_beq_eq_true a1
    have e2 := Nat.eq_of_beq_eq_true a2
    have e1 : m.1 = f.2.1 := e1
    have e2 : m.2.1 = f.2.2.1 := e2
    obtain rfl : yy = m.1 := by omega
    obtain rfl : pc = m.2.1 := by omega
    have p5 : ae_sr z.k.1 ρ f.2.2.2.2 sw := p5
    rw [ab_nl_ok hst] at p5
    cases sw with
    | cons _ _ => exact absurd p5 id
    | nil =>
      have p4 : ae_lr z.k.1 ρ f.2.2.2.1 lw := p4
      obtain ⟨e, lw2, w1, w2, w3, w4, w5⟩ := mM L xs d lw h2 hL (fun c hc => ae_lc_ok S1 p4 (List.all_eq_true.mp a3 c hc)) kB
      have le := w1.1.1
      have kM' := aq_mixhk kA w1
      have frm : ae_fr m.2.2.2.2.2.1 L xs (am_mX2 ap_b false h1 h2) (am_mX2 ap_b false h1 e) := by
        intro p j hp
        cases hsd : am_sd ap_b false p with
        | true => rw [ap_c (s := false) l1 le hsd, ap_c (s := false) l1 l2 hsd]
        | false => rw [ap_cx (s := false) l1 le hsd, ap_cx (s := false) l1 l2 hsd]; exact w2 p j hp
      have H3 : ae_hp false y.1.1 ρ1 L xs M2 (am_mX2 ap_b false h1 e) := ae_kept_ok hf (cx := false) (fun h => by cases h) u.2.2 H2 kM' frm q3
      have p4' : ae_lr y.1.1 ρ1 f.2.2.2.1 lw := ae_lr_ext u.1 u.2.1 p4
      have nf : ∀ {p : Nat}, am_sd ap_b true p = true → am_sd ap_b false p = false := fun {p} h => by rw [ac_sd2, h]; rfl
      have hd0 := Nat.blt_eq.mp x3
      have hdn := Nat.le_of_ble_eq_true x4
      have emo : m.2.2.2.2.2.1 = [(tt.1, (tt.2.2.2.1 : Int), ((tt.2.2.2.1 + tt.2.2.2.2 : Nat) : Int) - 1)] := ab_ql_ok rb_r3_ok x2
      have esd := Nat.eq_of_beq_eq_true x1
      have C1 : ∀ i, i < tt.2.2.2.2 → ae_cell L xs (am_mX2 ap_b false h1 e) tt.1 (tt.2.2.2.1 + i) = ae_cell L xs (am_mX2 ap_b false h1 h2) tt.1 (tt.2.1 + i) := by
        intro i hi
        have hsd := List.all_eq_true.mp mB3 tt (by rw [htt]; exact List.mem_singleton.mpr rfl)
        rw [Bool.and_eq_true] at hsd
        have nf : am_sd ap_b false tt.1 = false := by rw [ac_sd2, hsd.1]; rfl
        have o1 := w4 tt (by rw [htt]; exact List.mem_singleton.mpr rfl) i hi
        rw [← esd] at o1
        rw [ap_cx (s := false) l1 le nf, ap_cx (s := false) l1 l2 nf]
        exact o1
      have C2 : ∀ q j, ¬ (q = tt.1 ∧ tt.2.2.2.1 ≤ j ∧ j < tt.2.2.2.1 + tt.2.2.2.2) → ae_cell L xs (am_mX2 ap_b false h1 e) q j = ae_cell L xs (am_mX2 ap_b false h1 h2) q j := by
        intro q j hn
        refine frm q j ?_
        rw [emo]
        cases hin : ae_inm [(tt.1, (tt.2.2.2.1 : Int), ((tt.2.2.2.1 + tt.2.2.2.2 : Nat) : Int) - 1)] q j with
        | false => rfl
        | true =>
          obtain ⟨r, hr, h3⟩ := List.any_eq_true.mp hin
          rw [List.mem_singleton.mp hr] at h3
          simp only [Bool.and_eq_true] at h3
          have j1 := Nat.eq_of_beq_eq_true h3.1.1
          have j2 := ae_le_iff.mp h3.1.2
          have j3 := ae_le_iff.mp h3.2
          have j2 : (tt.2.2.2.1 : Int) ≤ (j : Int) := j2
          have j3 : (j : Int) ≤ ((tt.2.2.2.1 + tt.2.2.2.2 : Nat) : Int) - 1 := j3
          exact absurd ⟨j1.symm, by omega, by omega⟩ hn
      have hin0 : ae_inm z.w tt.1 tt.2.1 = false := by
        cases hh : ae_inm z.w tt.1 tt.2.1 with
        | false => rfl
        | true => rw [hh] at x6; cases x6
      have OLD : ab_old y.1.1 ρ1 L xs (y.2.2.filter (rb_om z.w tt.1 tt.2.2.2.1 tt.2.2.2.2)) z.w (rb_T z.w tt.1 tt.2.1 tt.2.2.2.2 tt.1 tt.2.2.2.1 z.T) (am_mX2 ap_b false h1 e) := rb_old hd0 H1.1 kM'.1 hdn C1 C2 ⟨h0, r1', r2', O1⟩ (fun h0 hF => rb_l0 hd0 hdn H1.1 (Nat.blt_eq.mp x5) hin0 hF)
      refine ⟨_, List.mem_singleton.mpr rfl, ρ1, g1, ((d, m.1, m.2.2.1, lw2, []) :: cs, none), h1, e, u, ⟨u.2.2, ae_k0_up S2 u, ?_, ap_tt_ext u.1 u.2.1 S5, ⟨⟨⟨p1, p2, rfl, fun p hp => ?_, trivial⟩, ap_ff_ext u.1 u.2.1 p6⟩, fun e => by cases e⟩, S7, aq_hs_of true w1, mG _ _ S9 frm, OLD⟩, fun fin => ?_⟩
      · refine ae_hp_add H3 (fun x hx => ?_)
        obtain ⟨t, ht', hx⟩ := List.mem_flatMap.mp hx
        obtain ⟨e0, he0, hx⟩ := List.mem_filterMap.mp hx
        unfold ad_tr2 at hx
        obtain ⟨hc, hx⟩ := ae_bif hx
        cases hx
        simp only [Bool.and_eq_true] at hc
        obtain ⟨⟨c1, c3⟩, c4⟩ := hc
        have hsd := List.all_eq_true.mp mB3 t ht'
        rw [Bool.and_eq_true] at hsd
        obtain ⟨j, v, n1, n2, n3⟩ := H2.2.1 e0 he0
        have b12 := ae_rg_ok u.2.2 c4
        rw [n1.2] at b12
        have c1 := Nat.eq_of_beq_eq_true c1
        have o1 := w4 t ht' (j - t.2.1) (by omega)
        have o2 : t.2.1 + (j - t.2.1) = j := by omega
        have n2' : ae_cell L xs h2 e0.1 j = some v := by
          rw [ap_cx (s := false) l1 l2 (nf (by rw [c1]; exact hsd.1))] at n2
          exact n2
        rw [o2, ← c1, n2'] at o1
        refine ⟨t.2.2.2.1 + (j - t.2.1), v, ?_, ?_, n3⟩
        · have o3 := ae_pls_dn n1 ((t.2.2.2.1 : Int) - (t.2.1 : Int))
          have o4 : (j : Int) + ((t.2.2.2.1 : Int) - (t.2.1 : Int)) = ((t.2.2.2.1 + (j - t.2.1) : Nat) : Int) := by omega
          rwa [o4] at o3
        · show ae_cell L xs (am_mX2 ap_b false h1 e) t.2.2.1 _ = _
          rw [ap_cx (s := false) l1 le (nf hsd.2)]
          exact o1
      · obtain ⟨m1, m2⟩ := List.mem_filter.mp hp
        obtain ⟨v, v1, v2⟩ := p4' p m1
        simp only [Bool.and_eq_true, Bool.not_eq_true'] at m2
        refine ⟨v, w3 p.1 (fun h => ?_) v (fun h => ?_) v1, v2⟩
        · have o5 := m2.1
          rw [h, Nat.beq_refl] at o5
          cases o5
        · cases hk : Nat.beq p.2.1 1 with
          | true =>
            have h9 := m2.2
            rw [hk, h, Nat.beq_refl] at h9
            cases h9
          | false =>
            obtain ⟨pi, pa, pb, pe⟩ := p
            unfold ae_ok at v2
            match pa, hk, v2 with
            | 0, _, v2 => obtain ⟨y, rfl, -⟩ := v2; rfl
            | 1, hk, _ => cases hk
            | 2, _, v2 => have v2 : v = .ref pb := v2; rw [v2]; rfl
            | 3, _, v2 => have v2 : v = .null := v2; rw [v2]; rfl
            | 4, _, v2 => obtain ⟨y, -, v2⟩ := v2; rw [v2]; rfl
            | k + 5, _, v2 => exact absurd v2 id
      · obtain ⟨v1, f1', v2, f2', o1, o2, o3, o4, o5, o6⟩ := fin
        refine ⟨v1, f1', v2, f2', o1, ?_, o3, ap_sm_tr (fun p j hp => w2 p j ?_) o4, ae_fr_tr (fun p j hp => frm p j (ae_sub2_ok mB2 hp)) o5, o6⟩
        · exact am_fn_of (f' := (d, m.1, m.2.2.1, lw2, [])) (h' := e) (fun n x hx => w5 n x hx) o2
        · cases hin : ae_inm m.2.2.2.2.2.1 p j with
          | false => rfl
          | true =>
            obtain ⟨t, ht', h3⟩ := List.any_eq_true.mp hin
            have h4 := List.all_eq_true.mp mB1 t ht'
            simp only [Bool.and_eq_true] at h3
            rw [Nat.eq_of_beq_eq_true h3.1.1, hp] at h4
            cases h4
end RBM

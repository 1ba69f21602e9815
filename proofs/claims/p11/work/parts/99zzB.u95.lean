/-! Both threads, with ties: what is known now, what was known where the walk began, what was written since -/
abbrev bb_St : Type := ae_K × List ae_M × List ae_M × ae_Mo × List bb_Ti × ap_T × ap_T
abbrev bb_St.k (z : bb_St) : ae_K := z.1
abbrev bb_St.m (z : bb_St) : List ae_M := z.2.1
abbrev bb_St.o (z : bb_St) : List ae_M := z.2.2.1
abbrev bb_St.w (z : bb_St) : ae_Mo := z.2.2.2.1
abbrev bb_St.T (z : bb_St) : List bb_Ti := z.2.2.2.2.1
abbrev bb_St.t1 (z : bb_St) : ap_T := z.2.2.2.2.2.1
abbrev bb_St.t2 (z : bb_St) : ap_T := z.2.2.2.2.2.2
abbrev bb_Tm : Type := bb_St × List ap_Si × ae_X
abbrev bb_Tm.st (t : bb_Tm) : bb_St := t.1
abbrev bb_Tm.si (t : bb_Tm) : List ap_Si := t.2.1
abbrev bb_Tm.rk (t : bb_Tm) : ae_X := t.2.2
/-- how to walk: contracts, splits and what plain steps write; what is written in all; where a thread waits; where something is known of both at once; the meeting points; who goes on where none fits; how many symbols stay -/
abbrev bb_W : Type := ap_P × ae_Mo × (Nat → Nat → Bool) × (Bool → Bool → bb_St → Bool) × (bb_St → Option (List bb_St)) × List bb_Tm × (bb_St → Option (Bool × Bool)) × Nat
abbrev bb_W.p (W : bb_W) : ap_P := W.1
abbrev bb_W.mo (W : bb_W) : ae_Mo := W.2.1
abbrev bb_W.wt (W : bb_W) : Nat → Nat → Bool := W.2.2.1
abbrev bb_W.hf (W : bb_W) : Bool → Bool → bb_St → Bool := W.2.2.2.1
abbrev bb_W.hk (W : bb_W) : bb_St → Option (List bb_St) := W.2.2.2.2.1
abbrev bb_W.tms (W : bb_W) : List bb_Tm := W.2.2.2.2.2.1
abbrev bb_W.ov (W : bb_W) : bb_St → Option (Bool × Bool) := W.2.2.2.2.2.2.1
abbrev bb_W.r (W : bb_W) : Nat := W.2.2.2.2.2.2.2
noncomputable def bb_old (n : Nat) (ρ : Nat → Int) (L : Nat) (xs : Nat → Int32) (o : List ae_M) (w : ae_Mo) (T : List bb_Ti) (h : List am_E) : Prop := ∃ h0, bb_RI T (bb_cv L xs h0) ∧ ae_fr w L xs h0 h ∧ ∀ m ∈ o, ae_eo n ρ L xs h0 m
noncomputable def bb_sat (G : List am_E → Prop) (L : Nat) (xs : Nat → Int32) (ρ : Nat → Int) (z : bb_St) (g1 g2 : ap_cT) (h1 h2 : List am_E) : Prop :=
  ae_okK ρ z.k ∧ ae_k0 ρ L z.k ∧ ae_hp false z.k.1 ρ L xs z.m (am_mX2 ap_b false h1 h2) ∧ ap_tt z.k.1 ρ z.t1 g1 ∧ ap_tt z.k.1 ρ z.t2 g2 ∧ ap_hs L xs false h1 ∧ ap_hs L xs true h2 ∧ G (am_mX2 ap_b false h1 h2) ∧ bb_old z.k.1 ρ L xs z.o z.w z.T (am_mX2 ap_b false h1 h2)
theorem bb_old_ext {n m : Nat} {ρ ρ' : Nat → Int} {L : Nat} {xs : Nat → Int32} {o : List ae_M} {w : ae_Mo} {T : List bb_Ti} {h : List am_E} (hn : n ≤ m) (a : ae_ag n ρ ρ') (q : bb_old n ρ L xs o w T h) : bb_old m ρ' L xs o w T h := by
  obtain ⟨h0, q1, q2, q3⟩ := q
  exact ⟨h0, q1, q2, fun e he => ae_eo_ext hn a (q3 e he)⟩
/-- the cells that a meeting point speaks of -/
noncomputable def bb_lds (T : List bb_Ti) (w : ae_Mo) : List ae_M → ae_K → List ae_M → List ae_M → Option (ae_K × List ae_M × List ae_M)
  | [], k, M, O => some (k, M, O)
  | t :: r, k, M, O => bif !(ae_kc t.2.1) then bb_lds T w r k M O else bif ae_nn t.2.1.1 && Nat.blt 0 t.1 && Nat.ble t.1 ae_np && Nat.blt t.2.1.1.toNat (ae_sh t.1).2.2 then (bb_ld T w k M O t.1 (ae_num (t.2.1.1.toNat : Int))).bind fun q => bb_lds T w r q.1 q.2.1 q.2.2 else none
theorem bb_lds_ok (hr : ae_rok = true) {L : Nat} {xs : Nat → Int32} {h0 h : List am_E} {w : ae_Mo} {T : List bb_Ti} (hT : bb_RI T (bb_cv L xs h0)) (hF : ae_fr w L xs h0 h) : ∀ {ts : List ae_M} {ρ : Nat → Int} {k : ae_K} {M O : List ae_M} {z : ae_K × List ae_M × List ae_M}, ae_okK ρ k → ae_hp false k.1 ρ L xs M h → (∀ m ∈ O, ae_eo k.1 ρ L xs h0 m) → bb_lds T w ts k M O = some z → ∃ ρ', ae_up2 ρ k ρ' z.1 ∧ ae_hp false z.1.1 ρ' L xs z.2.1 h ∧ ∀ m ∈ z.2.2, ae_eo z.1.1 ρ' L xs h0 m
  | [], ρ, k, M, O, z, hK, hH, hO, q => by cases q; exact ⟨ρ, ⟨Nat.le_refl _, ae_ag_rf _ _, hK⟩, hH, hO⟩
  | t :: r, ρ, k, M, O, z, hK, hH, hO, q => by
    unfold bb_lds at q
    cases hkc : ae_kc t.2.1 with
    | false => rw [hkc] at q; exact bb_lds_ok hr hT hF hK hH hO q
    | true =>
    rw [hkc] at q
    obtain ⟨hb, q⟩ := ae_bif (show (bif _ then _ else none) = some z from q)
    simp only [Bool.and_eq_true] at hb
    obtain ⟨y, h1, q⟩ := Option.bind_eq_some_iff.mp q
    obtain ⟨ρ1, u1, H1, O1⟩ := bb_ld_ok hr hK hH hT hF hO (ae_num_dn _) (Nat.blt_eq.mp hb.1.1.2) (Nat.le_of_ble_eq_true hb.1.2) (Nat.blt_eq.mp hb.2) h1
    obtain ⟨ρ2, u2, H2, O2⟩ := bb_lds_ok hr hT hF u1.2.2 H1 O1 q
    exact ⟨ρ2, u1.tr u2, H2, O2⟩
noncomputable def bb_nl {α : Type} (l : List α) : Bool := match l with
  | [] => true
  | _ :: _ => false
theorem bb_nl_ok {α : Type} {l : List α} (q : bb_nl l = true) : l = [] := by
  cases l with
  | nil => rfl
  | cons _ _ => cases q
/-- entries that keep their invariants are as any other; those that break them stay so -/
noncomputable def bb_vm (k : ae_K) (M : List ae_M) (m : ae_M) : Bool := ae_oi k m.1 m.2.1 m.2.2.1 && ae_vc k M m.1 m.2.1
noncomputable def bb_vn (k : ae_K) (M : List ae_M) (m : ae_M) : ae_M := (m.1, m.2.1, m.2.2.1, m.2.2.2 && !(bb_vm k M m))
noncomputable def bb_vp (k : ae_K) (M : List ae_M) : List ae_M := M.map (bb_vn k M)
theorem bb_vp_ok (hf : ae_fok = true) {ex : Bool} {ρ : Nat → Int} {k : ae_K} {L : Nat} {xs : Nat → Int32} {M : List ae_M} {h : List am_E} (hK : ae_okK ρ k) (hH : ae_hp ex k.1 ρ L xs M h) : ae_hp ex k.1 ρ L xs (bb_vp k M) h := by
  have hdy : ∀ m ∈ M, m.2.2.2 = true → bb_vm k M m = false → ∀ j : Nat, ae_ev ρ m.2.1 = (j : Int) → ae_dy ρ (bb_vp k M) m.1 j := by
    intro m m1 m2 m3 j m4
    exact ⟨bb_vn k M m, List.mem_map.mpr ⟨m, m1, rfl⟩, by show (m.2.2.2 && !(bb_vm k M m)) = true; rw [m2, m3]; rfl, rfl, m4⟩
  refine ⟨hH.1, fun m hm => ?_, fun p j v hp hc => ?_, fun f hfm i hi => ?_⟩
  · obtain ⟨m', hm', rfl⟩ := List.mem_map.mp hm
    exact hH.2.1 m' hm'
  · rcases hH.2.2.1 p j v hp hc with g | ⟨m, m1, m2, m3, m4⟩ | g
    · exact Or.inl g
    · cases h1 : bb_vm k M m with
      | false =>
        have := hdy m m1 m2 h1 j m4
        rw [m3] at this
        exact Or.inr (Or.inl this)
      | true =>
        unfold bb_vm at h1
        rw [Bool.and_eq_true] at h1
        obtain ⟨i, w, g1, g2, g3⟩ := hH.2.1 m m1
        have hij : i = j := by have := g1.2; rw [m4] at this; omega
        subst hij
        rw [m3, hc] at g2
        cases g2
        rw [← m3]
        exact Or.inl (ae_oi_ok hK m4 g3 h1.1)
    · exact Or.inr (Or.inr g)
  · rcases hH.2.2.2 f hfm i hi with g | ⟨o, ho, m, m1, m2, m3, m4⟩ | g
    · exact Or.inl g
    · cases h1 : bb_vm k M m with
      | false =>
        have := hdy m m1 m2 h1 _ m4
        rw [m3] at this
        exact Or.inr (Or.inl ⟨o, ho, this⟩)
      | true =>
        unfold bb_vm at h1
        rw [Bool.and_eq_true] at h1
        have h2 := List.all_eq_true.mp h1.2 f (ae_ffe_mem hK hfm m3.symm ho hi m4)
        rw [m3, Nat.beq_refl] at h2
        have h3 := List.all_eq_true.mp (show (ae_of f.2.2.2.2.2).all (ae_vo k M f.1 m.2.1 f) = true from h2) o ho
        unfold ae_vo at h3
        rw [Bool.or_eq_true] at h3
        obtain ⟨i0, w, g1, g2, g3⟩ := hH.2.1 m m1
        have hi0 : (i0 : Int) = ((f.2.1 + f.2.2.1 * i + o : Nat) : Int) := by rw [← m4, g1.2]
        rw [hi0] at g1
        rcases h3 with h3 | h3
        · exact absurd rfl (ae_cn_ok hK m4 h3 i hi)
        · split at h3
          · rename_i b hbb
            obtain ⟨f1, f2, f3, f4⟩ := ae_fok_at hf hfm
            obtain ⟨i', q1, q2, q3⟩ := ae_ci_ok hK f1 g1 hbb
            have hii : i' = i := by
              have h5 : f.2.2.1 * i' = f.2.2.1 * i := by omega
              exact Nat.eq_of_mul_eq_mul_left f1 h5
            subst hii
            obtain ⟨l, hl, h4⟩ := List.any_eq_true.mp h3
            unfold ae_vl at h4
            split at h4
            · rename_i w hw
              obtain ⟨z1, -⟩ := ae_lx_ok hK hH q3 hw
              have h5 := ae_z_ok hK h4
              rw [ae_pls_ev, z1.2] at h5
              exact Or.inl ⟨l, hl, by omega⟩
            · cases h4
          · cases h3
    · exact Or.inr (Or.inr g)
noncomputable def bb_mm (k : ae_K) (σ : List ae_X) (M T : List ae_M) : Bool := (T.all fun t => ae_wb σ.length t.2.1.2 && M.any (ap_m1 k σ t)) && M.all fun m => !m.2.2.2 || T.any fun t => t.2.2.2 && ap_m1 k σ t m
/-- frames at the same places -/
noncomputable def bb_ctl : List ap_F → List ap_F → Bool
  | [], [] => true
  | f :: r, t :: s => Nat.beq f.2.1 t.2.1 && Nat.beq f.2.2.1 t.2.2.1 && bb_ctl r s
  | _, _ => false
noncomputable def bb_mt (R : Nat) (w0 : ae_X) (z : bb_St) (t : bb_Tm) : Bool :=
  bif Nat.blt 0 R && bb_ctl z.t1.1 t.st.t1.1 && bb_ctl z.t2.1 t.st.t2.1 && bb_nl t.st.o && bb_nl t.st.w then
    (match bb_lds z.T z.w t.st.m z.k (bb_vp z.k z.m) z.o with
    | some q => (match ap_ss q.1 q.2.1 z.t1 z.t2 t.si (ap_s0 R) with
      | some l => ap_km q.1 l t.st.k && bb_mm q.1 l q.2.1 t.st.m && ap_tm q.1 l z.t1 t.st.t1 && ap_tm q.1 l z.t2 t.st.t2 && bb_ric2 q.1 q.2.1 q.2.2 z.w z.T t.st.T && ae_z q.1 (ae_pls (ae_sub (ap_su l t.rk) w0) 1) && ae_z q.1 (ae_neg (ap_su l t.rk) 0)
      | none => false)
    | none => false)
  else false
section ABD
variable {G : List am_E → Prop} {L : Nat} {xs : Nat → Int32} {ρ : Nat → Int} {g1 g2 : ap_cT} {h1 h2 : List am_E}
theorem bb_mt_ok (hr : ae_rok = true) (hf : ae_fok = true) {R : Nat} {w0 : ae_X} {W0 : Int} {z : bb_St} {t : bb_Tm} (q : bb_mt R w0 z t = true) (S : bb_sat G L xs ρ z g1 g2 h1 h2) (hR : R ≤ z.k.1) (w1 : ae_wt z.k.1 w0.2) (w2 : ae_ev ρ w0 = W0) : ∃ ρ', bb_sat G L xs ρ' t.st g1 g2 h1 h2 ∧ 0 ≤ ae_ev ρ' t.rk ∧ ae_ev ρ' t.rk < W0 ∧ R ≤ t.st.k.1 ∧ ∀ s, s < R → ρ' s = ρ s := by
  obtain ⟨S1, S2, S4, S5, S6, S7, S8, S9, h0, r1, r2, r3⟩ := S
  unfold bb_mt at q
  cases hb : Nat.blt 0 R && bb_ctl z.t1.1 t.st.t1.1 && bb_ctl z.t2.1 t.st.t2.1 && bb_nl t.st.o && bb_nl t.st.w with
  | false => rw [hb] at q; cases q
  | true =>
  rw [hb] at q
  simp only [Bool.and_eq_true] at hb
  have hR0 : 0 < R := Nat.blt_eq.mp hb.1.1.1.1
  have ho := bb_nl_ok hb.1.2
  change (match bb_lds z.T z.w t.st.m z.k (bb_vp z.k z.m) z.o with
    | some q => (match ap_ss q.1 q.2.1 z.t1 z.t2 t.si (ap_s0 R) with
      | some l => ap_km q.1 l t.st.k && bb_mm q.1 l q.2.1 t.st.m && ap_tm q.1 l z.t1 t.st.t1 && ap_tm q.1 l z.t2 t.st.t2 && bb_ric2 q.1 q.2.1 q.2.2 z.w z.T t.st.T && ae_z q.1 (ae_pls (ae_sub (ap_su l t.rk) w0) 1) && ae_z q.1 (ae_neg (ap_su l t.rk) 0)
      | none => false)
    | none => false) = true at q
  have H1 := bb_vp_ok hf S1 S4
  split at q
  · rename_i kq hl
    obtain ⟨ρ1, u, H2, O2⟩ := bb_lds_ok hr r1 r2 S1 H1 r3 hl
    split at q
    · rename_i l hs
      simp only [Bool.and_eq_true] at q
      obtain ⟨⟨⟨⟨⟨⟨q1, q2⟩, q3⟩, q4⟩, q5⟩, q6⟩, q7⟩ := q
      have T1 := ap_tt_ext u.1 u.2.1 S5
      have T2 := ap_tt_ext u.1 u.2.1 S6
      have K1 := u.2.2
      have RI2 := bb_ric2_ok hr K1 H2 r1 r2 O2 q5
      obtain ⟨lm, hlm⟩ := ap_ss_pre hs
      have hl0 : ∀ s, s < R → l.getD s (ae_num 0) = ae_sym s := by
        intro s hs'
        rw [hlm, List.getD_eq_getElem?_getD, List.getElem?_append_left (by unfold ap_s0; rw [List.length_map, List.length_range]; exact hs')]
        unfold ap_s0
        rw [List.getElem?_map, List.getElem?_range hs']
        rfl
      have hlen : R ≤ l.length := by
        rw [hlm, List.length_append]
        unfold ap_s0
        rw [List.length_map, List.length_range]
        omega
      generalize hσ : l = σ at q1 q2 q3 q4 q5 q6 q7 hl0 hlen
      unfold ap_km at q1
      simp only [Bool.and_eq_true] at q1
      obtain ⟨⟨⟨n1, n2⟩, n3⟩, n4⟩ := q1
      have n1 := Nat.eq_of_beq_eq_true n1
      have hsf : ∀ e, ae_ev ρ1 (ap_su σ e) = ae_ev (ap_ρ ρ1 σ) e := fun e => ap_su_ev ρ1 σ e
      have KT : ae_okK (ap_ρ ρ1 σ) t.st.k := by
        refine ⟨fun b hb => ?_, fun f hf' => ?_, fun d hd => ?_⟩
        · have h3 := List.all_eq_true.mp n2 b hb
          rw [Bool.and_eq_true] at h3
          have h4 := ae_rg_ok K1 h3.2
          exact ⟨Nat.blt_eq.mp h3.1, h4.1, h4.2⟩
        · have h3 := List.all_eq_true.mp n3 f hf'
          rw [Bool.and_eq_true] at h3
          have h4 := ae_z_ok K1 h3.2
          rw [hsf] at h4
          exact ⟨by rw [n1]; exact ae_wb_ok h3.1, h4⟩
        · revert hd n4
          cases t.st.k.2.2.2 with
          | nil => intro _ hd; exact absurd hd List.not_mem_nil
          | cons _ _ => intro h _; cases h
      have K0 : ae_k0 (ap_ρ ρ1 σ) L t.st.k := by
        refine ⟨⟨by rw [n1]; omega, S2.1.2⟩, ?_⟩
        show ae_ev ρ1 (σ.getD 0 (ae_num 0)) = (L : Int)
        rw [hl0 0 hR0]
        have h3 := ae_k0_up S2 u
        have h4 := (ae_sym_dn (n := kq.1.1) (ρ := ρ1) (s := 0) h3.1.1).2
        rw [h4]
        exact h3.2
      unfold bb_mm at q2
      rw [Bool.and_eq_true] at q2
      have m1e : ∀ {t' m' : ae_M}, ap_m1 kq.1 σ t' m' = true → ∀ j : Nat, ae_dn kq.1.1 ρ1 m'.2.1 (j : Int) → m'.1 = t'.1 ∧ ae_ev (ap_ρ ρ1 σ) t'.2.1 = (j : Int) ∧ ap_vm kq.1 σ m'.2.2.1 t'.2.2.1 = true := by
        intro t' m' h7 j e1
        unfold ap_m1 at h7
        simp only [Bool.and_eq_true] at h7
        obtain ⟨⟨h8, h9⟩, h10⟩ := h7
        refine ⟨Nat.eq_of_beq_eq_true h8, ?_, h10⟩
        cases hb : ae_kc t'.2.1 && ae_kc m'.2.1 with
        | true =>
          rw [hb] at h9
          have h9 := ae_ie_ok h9
          rw [Bool.and_eq_true] at hb
          have kc : ∀ {e : ae_X}, ae_kc e = true → ∀ r, ae_ev r e = e.1 := by
            intro e he r
            unfold ae_kc at he
            unfold ae_ev
            revert he
            cases e.2 with
            | nil => intro _; exact Int.add_zero _
            | cons _ _ => intro h; cases h
          rw [kc hb.1, ← h9, ← kc hb.2 ρ1]
          exact e1.2
        | false =>
          rw [hb] at h9
          have h9 := ae_rg_ok K1 h9
          rw [ae_sub_ev, hsf, e1.2] at h9
          omega
      have HT : ae_hp false t.st.k.1 (ap_ρ ρ1 σ) L xs t.st.m (am_mX2 ap_b false h1 h2) := by
        have wtt : ∀ m ∈ t.st.m, ae_wt t.st.k.1 m.2.1.2 := fun m hm => by
          have h3 := List.all_eq_true.mp q2.1 m hm
          rw [Bool.and_eq_true] at h3
          rw [n1]; exact ae_wb_ok h3.1
        have dyt : ∀ p j, ae_dy ρ1 kq.2.1 p j → ae_dy (ap_ρ ρ1 σ) t.st.m p j := by
          intro p j ⟨m', f1, f2, f3, f4⟩
          have h3 := List.all_eq_true.mp q2.2 m' f1
          rw [f2] at h3
          have h3 : (t.st.m.any fun t => t.2.2.2 && ap_m1 kq.1 σ t m') = true := h3
          obtain ⟨t', g1, g2⟩ := List.any_eq_true.mp h3
          rw [Bool.and_eq_true] at g2
          obtain ⟨j', v, e1, e2, e3⟩ := H2.2.1 m' f1
          have ej : j' = j := by have := e1.2; rw [f4] at this; omega
          subst ej
          obtain ⟨k1, k2, -⟩ := m1e g2.2 j' e1
          exact ⟨t', g1, g2.1, by rw [← k1]; exact f3, k2⟩
        refine ⟨H2.1, fun m hm => ?_, fun p j v hp hc => ?_, fun f hfm i hi => ?_⟩
        · have h3 := List.all_eq_true.mp q2.1 m hm
          rw [Bool.and_eq_true] at h3
          obtain ⟨m', f1, h7⟩ := List.any_eq_true.mp h3.2
          obtain ⟨j, v, e1, e2, e3⟩ := H2.2.1 m' f1
          obtain ⟨k1, k2, k3⟩ := m1e h7 j e1
          rw [k1] at e2
          exact ⟨j, v, ⟨wtt m hm, k2⟩, e2, by rw [n1]; exact ap_vm_ok K1 k3 e3⟩
        · rcases H2.2.2.1 p j v hp hc with g | g | g
          · exact Or.inl g
          · exact Or.inr (Or.inl (dyt p j g))
          · exact Or.inr (Or.inr g)
        · rcases H2.2.2.2 f hfm i hi with g | ⟨o, ho, g⟩ | g
          · exact Or.inl g
          · exact Or.inr (Or.inl ⟨o, ho, dyt _ _ g⟩)
          · exact Or.inr (Or.inr g)
      have h6 := ae_z_ok K1 q6
      rw [ae_pls_ev, ae_sub_ev, hsf, ae_ev_ag u.2.1 w1, w2] at h6
      have h7 := ae_z_ok K1 q7
      rw [ae_neg_ev, hsf] at h7
      refine ⟨ap_ρ ρ1 σ, ⟨KT, K0, HT, ?_, ?_, S7, S8, S9, _, RI2, ae_fr_rf _ _ _ _, fun m hm => ?_⟩, by omega, by omega, by rw [n1]; exact hlen, fun s hs' => ?_⟩
      · rw [n1]; exact ap_tm_ok K1 q3 T1
      · rw [n1]; exact ap_tm_ok K1 q4 T2
      · rw [ho] at hm; exact absurd hm List.not_mem_nil
      · show ae_ev ρ1 (σ.getD s (ae_num 0)) = ρ s
        rw [hl0 s hs', (ae_sym_dn (n := kq.1.1) (ρ := ρ1) (s := s) (by have := u.1; omega)).2]
        exact u.2.1 s (by omega)
    · cases q
  · cases q
/-- where a walk begins, all that is known is known of old -/
noncomputable def bb_ini (z : bb_St) : bb_St := (z.k, z.m, z.m, [], z.T, z.t1, z.t2)
theorem bb_ini_ok {z : bb_St} (hw : z.w = []) (S : bb_sat G L xs ρ z g1 g2 h1 h2) : bb_sat G L xs ρ (bb_ini z) g1 g2 h1 h2 := by
  obtain ⟨S1, S2, S4, S5, S6, S7, S8, S9, h0, r1, r2, r3⟩ := S
  refine ⟨S1, S2, S4, S5, S6, S7, S8, S9, _, bb_RI_eq (fun p j => ?_) r1, ae_fr_rf _ _ _ _, S4.2.1⟩
  exact bb_cv_fr r2 (by rw [hw]; rfl)
theorem bb_ldz (hr : ae_rok = true) {z : bb_St} (S : bb_sat G L xs ρ z g1 g2 h1 h2) {p j : Nat} {e0 : ae_X} (hd : ae_dn z.k.1 ρ e0 (j : Int)) (hp : 0 < p) (hp2 : p ≤ ae_np) (hj : j < (ae_sh p).2.2) {y : ae_K × List ae_M × List ae_M} (q : bb_ld z.T z.w z.k z.m z.o p e0 = some y) :
    ∃ ρ', ae_up2 ρ z.k ρ' y.1 ∧ bb_sat G L xs ρ' (y.1, y.2.1, y.2.2, z.w, z.T, z.t1, z.t2) g1 g2 h1 h2 := by
  obtain ⟨S1, S2, S4, S5, S6, S7, S8, S9, h0, r1, r2, r3⟩ := S
  obtain ⟨ρ', u, H, O⟩ := bb_ld_ok hr S1 S4 r1 r2 r3 hd hp hp2 hj q
  exact ⟨ρ', u, u.2.2, ae_k0_up S2 u, H, ap_tt_ext u.1 u.2.1 S5, ap_tt_ext u.1 u.2.1 S6, S7, S8, S9, h0, r1, r2, O⟩
end ABD
/-! ahead of a step: the cells that it looks at -/
noncomputable def bb_ra (k : ae_K) (st : List ae_V) : Option (Nat × ae_X) := match st with
  | i :: p :: _ => bif Nat.beq i.1 0 && Nat.beq p.1 2 && Nat.blt 0 p.2.1 && Nat.ble p.2.1 ae_np && ae_rg k i.2.2 0 (((ae_sh p.2.1).2.2 : Int) - 1) then some (p.2.1, i.2.2) else none
  | _ => none
noncomputable def bb_gfl (a b : Nat) (st : List ae_V) : Option (Nat × ae_X) := match st with
  | v :: _ => bif Nat.beq v.1 2 && ae_isO v.2.1 a b then some (v.2.1, ae_num (b : Int)) else none
  | [] => none
noncomputable def bb_cell (k : ae_K) (f : ap_F) : Option (Nat × ae_X) := match am_code f.2.1 f.2.2.1 with
  | some q => (match q.1 with
    | .getfield _ => bb_gfl q.2.1 q.2.2 f.2.2.2.2
    | .iaload => bb_ra k f.2.2.2.2
    | .baload => bb_ra k f.2.2.2.2
    | .laload => bb_ra k f.2.2.2.2
    | _ => none)
  | none => none
noncomputable def bb_pl (z : bb_St) (f : ap_F) : Option bb_St := match bb_cell z.k f with
  | some c => (bb_ld z.T z.w z.k z.m z.o c.1 c.2).bind fun y => some (y.1, y.2.1, y.2.2, z.w, z.T, z.t1, z.t2)
  | none => some z
noncomputable def bb_ps : List ae_Sp → bb_St → Option bb_St
  | [], z => some z
  | s :: r, z => bif Nat.beq s.2.2.1 1 then (bif Nat.blt 0 s.2.2.2.1 && Nat.ble s.2.2.2.1 ae_np && Nat.blt s.2.2.2.2 (ae_sh s.2.2.2.1).2.2 then (bb_ld z.T z.w z.k z.m z.o s.2.2.2.1 (ae_num (s.2.2.2.2 : Int))).bind fun y => bb_ps r (y.1, y.2.1, y.2.2, z.w, z.T, z.t1, z.t2) else none) else bb_ps r z
section ABE
variable {G : List am_E → Prop} {L : Nat} {xs : Nat → Int32} {ρ : Nat → Int} {g1 g2 : ap_cT} {h1 h2 : List am_E}
theorem bb_ra_ok {k : ae_K} (hK : ae_okK ρ k) {st : List ae_V} {sw : List Value} (hs : ae_sr k.1 ρ st sw) {c : Nat × ae_X} (q : bb_ra k st = some c) : ∃ j : Nat, ae_dn k.1 ρ c.2 (j : Int) ∧ 0 < c.1 ∧ c.1 ≤ ae_np ∧ j < (ae_sh c.1).2.2 := by
  unfold bb_ra at q
  split at q
  · rename_i i p r
    obtain ⟨hb, q⟩ := ae_bif q
    cases q
    simp only [Bool.and_eq_true] at hb
    obtain ⟨⟨⟨⟨b1, b2⟩, b3⟩, b4⟩, b5⟩ := hb
    cases sw with
    | nil => exact absurd hs id
    | cons v t =>
      obtain ⟨x, -, d⟩ := ae_ok0 hs.1 b1
      have g := ae_rg_ok hK b5
      rw [d.2] at g
      refine ⟨x.toInt.toNat, ?_, Nat.blt_eq.mp b3, Nat.le_of_ble_eq_true b4, ?_⟩
      · rw [show ((x.toInt.toNat : Nat) : Int) = x.toInt by omega]; exact d
      · show x.toInt.toNat < (ae_sh p.2.1).2.2
        omega
  · cases q
theorem bb_cell_ok {k : ae_K} (hK : ae_okK ρ k) {f : ap_F} {g : am_Fr} (F : ap_f1 k.1 ρ f g) {c : Nat × ae_X} (q : bb_cell k f = some c) : ∃ j : Nat, ae_dn k.1 ρ c.2 (j : Int) ∧ 0 < c.1 ∧ c.1 ≤ ae_np ∧ j < (ae_sh c.1).2.2 := by
  unfold bb_cell at q
  split at q
  · rename_i w hw
    split at q
    · unfold bb_gfl at q
      split at q
      · rename_i v r
        obtain ⟨hb, q⟩ := ae_bif q
        cases q
        rw [Bool.and_eq_true] at hb
        have h2 := hb.2
        unfold ae_isO at h2
        simp only [Bool.and_eq_true] at h2
        exact ⟨w.2.2, ae_num_dn _, Nat.blt_eq.mp h2.1.1.1.1, Nat.le_of_ble_eq_true h2.1.1.1.2, Nat.blt_eq.mp h2.2⟩
      · cases q
    · exact bb_ra_ok hK F.2.2.2.2 q
    · exact bb_ra_ok hK F.2.2.2.2 q
    · exact bb_ra_ok hK F.2.2.2.2 q
    · cases q
  · cases q
theorem bb_pl_ok (hr : ae_rok = true) {z z' : bb_St} (S : bb_sat G L xs ρ z g1 g2 h1 h2) {f : ap_F} {g : am_Fr} (F : ap_f1 z.k.1 ρ f g) (q : bb_pl z f = some z') : ∃ ρ', ae_up2 ρ z.k ρ' z'.k ∧ bb_sat G L xs ρ' z' g1 g2 h1 h2 ∧ z'.t1 = z.t1 ∧ z'.t2 = z.t2 := by
  unfold bb_pl at q
  split at q
  · rename_i c hc
    obtain ⟨y, h1, q⟩ := Option.bind_eq_some_iff.mp q
    cases q
    obtain ⟨j, d, p1, p2, p3⟩ := bb_cell_ok S.1 F hc
    obtain ⟨ρ', u, S'⟩ := bb_ldz hr S d p1 p2 p3 h1
    exact ⟨ρ', u, S', rfl, rfl⟩
  · cases q
    exact ⟨ρ, ⟨Nat.le_refl _, ae_ag_rf _ _, S.1⟩, S, rfl, rfl⟩
theorem bb_ps_ok (hr : ae_rok = true) : ∀ {ss : List ae_Sp} {ρ : Nat → Int} {z z' : bb_St}, bb_sat G L xs ρ z g1 g2 h1 h2 → bb_ps ss z = some z' → ∃ ρ', ae_up2 ρ z.k ρ' z'.k ∧ bb_sat G L xs ρ' z' g1 g2 h1 h2 ∧ z'.t1 = z.t1 ∧ z'.t2 = z.t2
  | [], ρ, z, z', S, q => by cases q; exact ⟨ρ, ⟨Nat.le_refl _, ae_ag_rf _ _, S.1⟩, S, rfl, rfl⟩
  | s :: r, ρ, z, z', S, q => by
    unfold bb_ps at q
    cases hb : Nat.beq s.2.2.1 1 with
    | false => rw [hb] at q; exact bb_ps_ok hr S q
    | true =>
      rw [hb] at q
      obtain ⟨hc, q⟩ := ae_bif (show (bif _ then _ else none) = some z' from q)
      simp only [Bool.and_eq_true] at hc
      obtain ⟨y, h3, q⟩ := Option.bind_eq_some_iff.mp q
      obtain ⟨ρ1, u1, S1⟩ := bb_ldz hr S (ae_num_dn _) (Nat.blt_eq.mp hc.1.1) (Nat.le_of_ble_eq_true hc.1.2) (Nat.blt_eq.mp hc.2) h3
      obtain ⟨ρ2, u2, S2, e1, e2⟩ := bb_ps_ok hr S1 q
      exact ⟨ρ2, u1.tr u2, S2, e1, e2⟩
end ABE
/-! a step, and what it writes -/
noncomputable def bb_wa (k : ae_K) (st : List ae_V) : ae_Mo := match st with
  | _ :: i :: p :: _ => (match ae_lo k i.2.2 with
    | some a => (match ae_hi k i.2.2 with
      | some b => [(p.2.1, a, b)]
      | none => [])
    | none => [])
  | _ => []
noncomputable def bb_wr (P : ap_P) (f : ap_F) (k : ae_K) : ae_Mo := match am_code f.2.1 f.2.2.1 with
  | some q => (match q.1 with
    | .putfield _ => (match f.2.2.2.2 with
      | _ :: p :: _ => [(p.2.1, (q.2.2 : Int), (q.2.2 : Int))]
      | _ => [])
    | .iastore => bb_wa k f.2.2.2.2
    | .bastore => bb_wa k f.2.2.2.2
    | .lastore => bb_wa k f.2.2.2.2
    | _ => bif am_isC q.1 then (bif Nat.beq q.2.1 1004 then (match f.2.2.2.2 with
        | _ :: _ :: t :: _ => [(t.2.1, 0, ((ae_sh t.2.1).2.2 : Int) - 1)]
        | _ => [])
      else bif Nat.ble 1000 q.2.1 then [] else match P.cts.find? fun c => Nat.beq c.1 q.2.1 && ae_fas k c.2.1 (f.2.2.2.2.take (am_pop q.1 q.2.2)).reverse with
        | some c => c.2.2.2.1
        | none => bif P.sps.any fun s => Nat.beq s.1 f.2.1 && Nat.beq s.2.1 f.2.2.1 then (P.cts.filter fun c => Nat.beq c.1 q.2.1).flatMap fun c => c.2.2.2.1 else []) else [])
  | none => []
noncomputable def bb_jn (a b : ae_Mo) : ae_Mo := bif ae_sub2 a b then b else a ++ b
noncomputable def bb_mk (s : Bool) (n : Nat) (w : ae_Mo) (z : bb_St) (o : ap_O) : bb_St := bif s then (ap_kd n o.1, o.2.1, z.o, bb_jn w z.w, z.T, z.t1, o.2.2) else (ap_kd n o.1, o.2.1, z.o, bb_jn w z.w, z.T, o.2.2, z.t2)
noncomputable def bb_stp (W : bb_W) (s : Bool) (z : bb_St) : Option (List bb_St) := match (bif s then z.t2 else z.t1).1 with
  | [] => none
  | f :: fs => (bb_ps (W.p.sps.filter fun q => Nat.beq q.1 f.2.1 && Nat.beq q.2.1 f.2.2.1) z).bind fun z0 => (bb_pl z0 f).bind fun z1 =>
    bif ae_sub2 (bb_wr W.p f z1.k) W.p.mo then (ap_s2 false (bb_wr W.p f z1.k, W.p.cts, W.p.sps) s f fs z1.k z1.m).bind fun l => some (l.map (bb_mk s z1.k.2.2.1.length (bb_wr W.p f z1.k) z1)) else none
theorem bb_jn_ok {a b : ae_Mo} {p j : Nat} (q : ae_inm (bb_jn a b) p j = false) : ae_inm a p j = false ∧ ae_inm b p j = false := by
  unfold bb_jn at q
  cases hb : ae_sub2 a b with
  | true => rw [hb] at q; exact ⟨ae_sub2_ok hb q, q⟩
  | false =>
    rw [hb] at q
    have q : (a ++ b).any (fun r => Nat.beq r.1 p && ae_le r.2.1 (j : Int) && ae_le (j : Int) r.2.2) = false := q
    rw [List.any_append, Bool.or_eq_false_iff] at q
    exact q
noncomputable def bb_al (f : bb_St → Bool) : Option (List bb_St) → Bool
  | some l => l.all f
  | none => false
abbrev bb_Go : Type := Bool → Bool → Bool → bb_St → Bool
noncomputable def bb_w (W : bb_W) (t : ap_T) : Bool := match t.1 with
  | [] => true
  | f :: _ => W.wt f.2.1 f.2.2.1
noncomputable def bb_g1 (W : bb_W) (w0 : ae_X) (ih : bb_Go) : bb_Go := fun f1 f2 nh z =>
  bif !nh && W.hf f1 f2 z then bb_al (ih f1 f2 true) (W.hk z)
  else bif (!f1 && bb_w W z.t1) then
    (bif (!f2 && bb_w W z.t2) then W.tms.any (bb_mt W.r w0 z) || (match W.ov z with
      | some b => ih b.1 b.2 true z
      | none => false)
    else bb_al (ih f1 false false) (bb_stp W true z))
  else bb_al (ih false f2 false) (bb_stp W false z)
noncomputable def bb_go (W : bb_W) (w0 : ae_X) (n : Nat) : bb_Go :=
  Nat.rec (motive := fun _ => bb_Go) (fun _ _ _ _ => false) (fun _ ih => bb_g1 W w0 ih) n
section ABF
variable {W : bb_W} {G : List am_E → Prop} {L : Nat} {xs : Nat → Int32} {Q : Option Value → Option Value → List am_E → List am_E → Prop}
/-- a hook is right -/
noncomputable def bb_HOK (W : bb_W) (G : List am_E → Prop) (L : Nat) (xs : Nat → Int32) (Q : Option Value → Option Value → List am_E → List am_E → Prop) : Prop := ∀ z o ρ g1 g2 h1 h2, W.hk z = some o → bb_sat G L xs ρ z g1 g2 h1 h2 → ∃ z' ∈ o, ∃ ρ' g1' g2' h1' h2', ae_up2 ρ z.k ρ' z'.k ∧ bb_sat G L xs ρ' z' g1' g2' h1' h2' ∧ (ap_end W.mo L xs Q g1' g2' h1' h2' → ap_end W.mo L xs Q g1 g2 h1 h2)
/-- the same where the first symbols are known -/
noncomputable def bb_HOKr (W : bb_W) (G : List am_E → Prop) (L : Nat) (xs : Nat → Int32) (Q : Option Value → Option Value → List am_E → List am_E → Prop) (r0 : Nat → Int) : Prop := ∀ z o ρ g1 g2 h1 h2, W.hk z = some o → bb_sat G L xs ρ z g1 g2 h1 h2 → W.r ≤ z.k.1 → (∀ s, s < W.r → ρ s = r0 s) → ∃ z' ∈ o, ∃ ρ' g1' g2' h1' h2', ae_up2 ρ z.k ρ' z'.k ∧ bb_sat G L xs ρ' z' g1' g2' h1' h2' ∧ (ap_end W.mo L xs Q g1' g2' h1' h2' → ap_end W.mo L xs Q g1 g2 h1 h2)
theorem bb_HOK.r {W : bb_W} {G : List am_E → Prop} {L : Nat} {xs : Nat → Int32} {Q : Option Value → Option Value → List am_E → List am_E → Prop} (h : bb_HOK W G L xs Q) (r0 : Nat → Int) : bb_HOKr W G L xs Q r0 := fun z o ρ g1 g2 h1 h2 a b _ _ => h z o ρ g1 g2 h1 h2 a b
theorem bb_al_ok {f : bb_St → Bool} {o : Option (List bb_St)} (q : bb_al f o = true) : ∃ l, o = some l ∧ ∀ z ∈ l, f z = true := by
  cases o with
  | none => cases q
  | some l => exact ⟨l, rfl, fun z hz => List.all_eq_true.mp q z hz⟩
theorem bb_fr_jn {w v : ae_Mo} {h0 h h' : List am_E} (a : ae_fr v L xs h0 h) (b : ae_fr w L xs h h') : ae_fr (bb_jn w v) L xs h0 h' := fun p j q => (b p j (bb_jn_ok q).1).trans (a p j (bb_jn_ok q).2)
theorem bb_stp_ok (hr : ae_rok = true) (hf : ae_fok = true) (hL : L ≤ 3072) (hct : ∀ c ∈ W.p.cts, ae_CT c) (hmo : ae_sub2 W.p.mo W.mo = true) (hG : ∀ h h', G h → ae_fr W.p.mo L xs h h' → G h') {s : Bool} {z : bb_St} {l : List bb_St} (q : bb_stp W s z = some l) {ρ : Nat → Int} {g1 g2 : ap_cT} {h1 h2 : List am_E} (S : bb_sat G L xs ρ z g1 g2 h1 h2) :
    ∃ z' ∈ l, ∃ ρ' g1' g2' h1' h2', ae_up2 ρ z.k ρ' z'.k ∧ bb_sat G L xs ρ' z' g1' g2' h1' h2' ∧ (ap_end W.mo L xs Q g1' g2' h1' h2' → ap_end W.mo L xs Q g1 g2 h1 h2) := by
  unfold bb_stp at q
  split at q
  · cases q
  · rename_i f fs hfs
    obtain ⟨z0, p1, q⟩ := Option.bind_eq_some_iff.mp q
    obtain ⟨z1, p2, q⟩ := Option.bind_eq_some_iff.mp q
    obtain ⟨hsub, q⟩ := ae_bif q
    obtain ⟨lo, q3, q⟩ := Option.bind_eq_some_iff.mp q
    cases q
    obtain ⟨ρ0, u0, S0, e1, e2⟩ := bb_ps_ok hr S p1
    have frw : ∀ {h h' : List am_E}, ae_fr (bb_wr W.p f z1.k) L xs h h' → ae_fr W.p.mo L xs h h' := fun f' p j hp => f' p j (ae_sub2_ok hsub hp)
    have frm : ∀ {h h' : List am_E}, ae_fr (bb_wr W.p f z1.k) L xs h h' → ae_fr W.mo L xs h h' := fun f' p j hp => f' p j (ae_sub2_ok hsub (ae_sub2_ok hmo hp))
    cases s with
    | false =>
      have hfs : z.t1.1 = f :: fs := hfs
      rw [← e1] at hfs
      have T0 := S0.2.2.2.1
      obtain ⟨gf, gv⟩ := g1
      have T0a := T0.1
      rw [hfs] at T0a
      cases gf with
      | nil => exact absurd T0a id
      | cons g gs =>
        have T0a : ap_f1 z0.k.1 ρ0 f g ∧ ap_ff z0.k.1 ρ0 fs gs := T0a
        obtain ⟨ρ1, u1, S1, e3, e4⟩ := bb_pl_ok hr S0 T0a.1 p2
        obtain ⟨K, K0, H, T1, T2, O1, O2, Gm, h0, r1, r2, r3⟩ := S1
        have T1a := T1.1
        rw [e3, hfs] at T1a
        have T1a : ap_f1 z1.k.1 ρ1 f g ∧ ap_ff z1.k.1 ρ1 fs gs := T1a
        obtain ⟨o1, m1, ρ', g', ho', u, w1, w2, w3, w4, w5, w6, w7⟩ := ap_s2_ok (P := (bb_wr W.p f z1.k, W.p.cts, W.p.sps)) hr hf hL hct q3 K K0 H T1a.1 T1a.2 O1 O2.1.1
        have w4 : ae_fr (bb_wr W.p f z1.k) L xs (am_mX2 ap_b false h1 h2) (am_mX2 ap_b false ho' h2) := w4
        have un : (ap_kd z1.k.2.2.1.length o1.1).1 = o1.1.1 := ap_kd_n _ _
        have ut := (u0.tr u1).tr u
        refine ⟨_, List.mem_map.mpr ⟨o1, m1, rfl⟩, ρ', g', g2, ho', h2, ⟨by show z.k.1 ≤ (ap_kd z1.k.2.2.1.length o1.1).1; rw [un]; exact ut.1, ut.2.1, ap_kd_ok ut.2.2⟩, ⟨ap_kd_ok u.2.2, ⟨⟨by show 0 < (ap_kd z1.k.2.2.1.length o1.1).1; rw [un]; exact w1.1.1, w1.1.2⟩, w1.2⟩, ?_, ?_, ?_, w6, O2, hG _ _ Gm (frw w4), ?_⟩, fun e => ap_end_1 (frm w4) w5 (fun x hx => w7 x hx) e⟩
        · show ae_hp false (ap_kd z1.k.2.2.1.length o1.1).1 ρ' L xs o1.2.1 (am_mX2 ap_b false ho' h2)
          rw [un]; exact w2
        · show ap_tt (ap_kd z1.k.2.2.1.length o1.1).1 ρ' o1.2.2 g'
          rw [un]; exact w3
        · show ap_tt (ap_kd z1.k.2.2.1.length o1.1).1 ρ' z1.t2 g2
          rw [un]; exact ap_tt_ext u.1 u.2.1 T2
        · show bb_old (ap_kd z1.k.2.2.1.length o1.1).1 ρ' L xs z1.o (bb_jn (bb_wr W.p f z1.k) z1.w) z1.T (am_mX2 ap_b false ho' h2)
          rw [un]
          exact ⟨h0, r1, bb_fr_jn r2 w4, fun m hm => ae_eo_ext u.1 u.2.1 (r3 m hm)⟩
    | true =>
      have hfs : z.t2.1 = f :: fs := hfs
      rw [← e2] at hfs
      have T0 := S0.2.2.2.2.1
      obtain ⟨gf, gv⟩ := g2
      have T0a := T0.1
      rw [hfs] at T0a
      cases gf with
      | nil => exact absurd T0a id
      | cons g gs =>
        have T0a : ap_f1 z0.k.1 ρ0 f g ∧ ap_ff z0.k.1 ρ0 fs gs := T0a
        obtain ⟨ρ1, u1, S1, e3, e4⟩ := bb_pl_ok hr S0 T0a.1 p2
        obtain ⟨K, K0, H, T1, T2, O1, O2, Gm, h0, r1, r2, r3⟩ := S1
        have T2a := T2.1
        rw [e4, hfs] at T2a
        have T2a : ap_f1 z1.k.1 ρ1 f g ∧ ap_ff z1.k.1 ρ1 fs gs := T2a
        have H' : ae_hp false z1.k.1 ρ1 L xs z1.m (am_mX2 ap_b true h2 h1) := by rw [ap_mX_not]; exact H
        obtain ⟨o1, m1, ρ', g', ho', u, w1, w2, w3, w4, w5, w6, w7⟩ := ap_s2_ok (P := (bb_wr W.p f z1.k, W.p.cts, W.p.sps)) hr hf hL hct q3 K K0 H' T2a.1 T2a.2 O2 O1.1.1
        rw [ap_mX_not] at w2
        rw [ap_mX_not ap_b true, ap_mX_not ap_b true] at w4
        have w4 : ae_fr (bb_wr W.p f z1.k) L xs (am_mX2 ap_b false h1 h2) (am_mX2 ap_b false h1 ho') := w4
        have un : (ap_kd z1.k.2.2.1.length o1.1).1 = o1.1.1 := ap_kd_n _ _
        have ut := (u0.tr u1).tr u
        refine ⟨_, List.mem_map.mpr ⟨o1, m1, rfl⟩, ρ', g1, g', h1, ho', ⟨by show z.k.1 ≤ (ap_kd z1.k.2.2.1.length o1.1).1; rw [un]; exact ut.1, ut.2.1, ap_kd_ok ut.2.2⟩, ⟨ap_kd_ok u.2.2, ⟨⟨by show 0 < (ap_kd z1.k.2.2.1.length o1.1).1; rw [un]; exact w1.1.1, w1.1.2⟩, w1.2⟩, ?_, ?_, ?_, O1, w6, hG _ _ Gm (frw w4), ?_⟩, fun e => ap_end_2 (frm w4) w5 (fun x hx => w7 x hx) e⟩
        · show ae_hp false (ap_kd z1.k.2.2.1.length o1.1).1 ρ' L xs o1.2.1 (am_mX2 ap_b false h1 ho')
          rw [un]; exact w2
        · show ap_tt (ap_kd z1.k.2.2.1.length o1.1).1 ρ' z1.t1 g1
          rw [un]; exact ap_tt_ext u.1 u.2.1 T1
        · show ap_tt (ap_kd z1.k.2.2.1.length o1.1).1 ρ' o1.2.2 g'
          rw [un]; exact w3
        · show bb_old (ap_kd z1.k.2.2.1.length o1.1).1 ρ' L xs z1.o (bb_jn (bb_wr W.p f z1.k) z1.w) z1.T (am_mX2 ap_b false h1 ho')
          rw [un]
          exact ⟨h0, r1, bb_fr_jn r2 w4, fun m hm => ae_eo_ext u.1 u.2.1 (r3 m hm)⟩
theorem bb_go_ok (hr : ae_rok = true) (hf : ae_fok = true) (hL : L ≤ 3072) (hct : ∀ c ∈ W.p.cts, ae_CT c) (hmo : ae_sub2 W.p.mo W.mo = true) (hG : ∀ h h', G h → ae_fr W.p.mo L xs h h' → G h') {r0 : Nat → Int} (hH : bb_HOKr W G L xs Q r0) {w0 : ae_X} {W0 : Int}
    (IH : ∀ t ∈ W.tms, ∀ ρ g1 g2 h1 h2, bb_sat G L xs ρ t.st g1 g2 h1 h2 → W.r ≤ t.st.k.1 → (∀ s, s < W.r → ρ s = r0 s) → 0 ≤ ae_ev ρ t.rk → ae_ev ρ t.rk < W0 → ap_end W.mo L xs Q g1 g2 h1 h2) :
    ∀ (n : Nat) (f1 f2 nh : Bool) (z : bb_St), bb_go W w0 n f1 f2 nh z = true → ∀ ρ g1 g2 h1 h2, bb_sat G L xs ρ z g1 g2 h1 h2 → W.r ≤ z.k.1 → (∀ s, s < W.r → ρ s = r0 s) → ae_wt z.k.1 w0.2 → ae_ev ρ w0 = W0 → ap_end W.mo L xs Q g1 g2 h1 h2 := by
  intro n
  induction n with
  | zero => intro f1 f2 nh z q; cases q
  | succ n ih =>
    intro f1 f2 nh z q ρ g1 g2 h1 h2 S s1 s2 w1 w2
    have q : bb_g1 W w0 (bb_go W w0 n) f1 f2 nh z = true := q
    have on : ∀ {a b c : Bool} {l : List bb_St}, (∀ z ∈ l, bb_go W w0 n a b c z = true) → (∃ z' ∈ l, ∃ ρ' g1' g2' h1' h2', ae_up2 ρ z.k ρ' z'.k ∧ bb_sat G L xs ρ' z' g1' g2' h1' h2' ∧ (ap_end W.mo L xs Q g1' g2' h1' h2' → ap_end W.mo L xs Q g1 g2 h1 h2)) → ap_end W.mo L xs Q g1 g2 h1 h2 := by
      intro a b c l hl ⟨z', m, ρ', g1', g2', h1', h2', u, S', fin⟩
      exact fin (ih a b c z' (hl z' m) ρ' g1' g2' h1' h2' S' (Nat.le_trans s1 u.1) (fun s hs => (u.2.1 s (by omega)).trans (s2 s hs)) (ae_wt_le u.1 w1) (by rw [ae_ev_ag u.2.1 w1]; exact w2))
    unfold bb_g1 at q
    cases hA : (!nh && W.hf f1 f2 z) with
    | true =>
      rw [hA] at q
      obtain ⟨l, e, q⟩ := bb_al_ok q
      exact on q (hH z l ρ g1 g2 h1 h2 e S s1 s2)
    | false =>
      rw [hA] at q
      cases hB : (!f1 && bb_w W z.t1) with
      | false =>
        rw [hB] at q
        obtain ⟨l, e, q⟩ := bb_al_ok q
        exact on q (bb_stp_ok hr hf hL hct hmo hG e S)
      | true =>
        rw [hB] at q
        cases hC : (!f2 && bb_w W z.t2) with
        | false =>
          rw [hC] at q
          obtain ⟨l, e, q⟩ := bb_al_ok q
          exact on q (bb_stp_ok hr hf hL hct hmo hG e S)
        | true =>
          rw [hC] at q
          rcases Bool.or_eq_true_iff.mp q with q | q
          · obtain ⟨t, ht, q⟩ := List.any_eq_true.mp q
            obtain ⟨ρ', S', r1, r2, r3, r4⟩ := bb_mt_ok hr hf q S s1 w1 w2
            exact IH t ht ρ' g1 g2 h1 h2 S' r3 (fun s hs => (r4 s hs).trans (s2 s hs)) r1 r2
          · split at q
            · exact ih _ _ _ z q ρ g1 g2 h1 h2 S s1 s2 w1 w2
            · cases q
/-- all meeting points at once: each leads to others of less rank, or is an end -/
noncomputable def bb_chk (W : bb_W) (n : Nat) (f1 f2 : Bool) (t : bb_Tm) : Bool := bb_nl t.st.w && ae_wb t.st.k.1 t.rk.2 && bb_go W t.rk n f1 f2 false (bb_ini t.st)
noncomputable def bb_ok (W : bb_W) (G : List am_E → Prop) (L : Nat) (xs : Nat → Int32) (Q : Option Value → Option Value → List am_E → List am_E → Prop) (r0 : Nat → Int) (t : bb_Tm) : Prop := ∀ ρ g1 g2 h1 h2, bb_sat G L xs ρ t.st g1 g2 h1 h2 → W.r ≤ t.st.k.1 → (∀ s, s < W.r → ρ s = r0 s) → ap_end W.mo L xs Q g1 g2 h1 h2
theorem bb_allr (hr : ae_rok = true) (hf : ae_fok = true) (hL : L ≤ 3072) (hct : ∀ c ∈ W.p.cts, ae_CT c) (hmo : ae_sub2 W.p.mo W.mo = true) (hG : ∀ h h', G h → ae_fr W.p.mo L xs h h' → G h') {r0 : Nat → Int} (hH : bb_HOKr W G L xs Q r0)
    (hT : ∀ t ∈ W.tms, (∃ n f1 f2, bb_chk W n f1 f2 t = true) ∨ bb_ok W G L xs Q r0 t) : ∀ t ∈ W.tms, bb_ok W G L xs Q r0 t := by
  have one : ∀ (t : bb_Tm) (n : Nat) (f1 f2 : Bool) (W0 : Int), bb_chk W n f1 f2 t = true → ∀ ρ g1 g2 h1 h2, bb_sat G L xs ρ t.st g1 g2 h1 h2 → W.r ≤ t.st.k.1 → (∀ s, s < W.r → ρ s = r0 s) → ae_ev ρ t.rk = W0 →
      (∀ t' ∈ W.tms, ∀ ρ g1 g2 h1 h2, bb_sat G L xs ρ t'.st g1 g2 h1 h2 → W.r ≤ t'.st.k.1 → (∀ s, s < W.r → ρ s = r0 s) → 0 ≤ ae_ev ρ t'.rk → ae_ev ρ t'.rk < W0 → ap_end W.mo L xs Q g1 g2 h1 h2) → ap_end W.mo L xs Q g1 g2 h1 h2 := by
    intro t n f1 f2 W0 q ρ g1 g2 h1 h2 S s1 s2 e IH
    unfold bb_chk at q
    rw [Bool.and_eq_true, Bool.and_eq_true] at q
    exact bb_go_ok hr hf hL hct hmo hG hH (W0 := W0) (r0 := r0) IH n f1 f2 false (bb_ini t.st) q.2 ρ g1 g2 h1 h2 (bb_ini_ok (bb_nl_ok q.1.1) S) s1 s2 (ae_wb_ok q.1.2) e
  have key : ∀ (N : Nat) (t : bb_Tm), t ∈ W.tms → ∀ ρ g1 g2 h1 h2, bb_sat G L xs ρ t.st g1 g2 h1 h2 → W.r ≤ t.st.k.1 → (∀ s, s < W.r → ρ s = r0 s) → ae_ev ρ t.rk < (N : Int) → ap_end W.mo L xs Q g1 g2 h1 h2 := by
    intro N
    induction N with
    | zero =>
      intro t ht ρ g1 g2 h1 h2 S s1 s2 hN
      rcases hT t ht with ⟨n, f1, f2, q⟩ | q
      · exact one t n f1 f2 _ q ρ g1 g2 h1 h2 S s1 s2 rfl (fun t' _ ρ' _ _ _ _ _ _ _ r1 r2 => by omega)
      · exact q ρ g1 g2 h1 h2 S s1 s2
    | succ N ih =>
      intro t ht ρ g1 g2 h1 h2 S s1 s2 hN
      rcases hT t ht with ⟨n, f1, f2, q⟩ | q
      · exact one t n f1 f2 _ q ρ g1 g2 h1 h2 S s1 s2 rfl (fun t' ht' ρ' g1' g2' h1' h2' S' s1' s2' r1 r2 => ih t' ht' ρ' g1' g2' h1' h2' S' s1' s2' (by omega))
      · exact q ρ g1 g2 h1 h2 S s1 s2
  exact fun t ht ρ g1 g2 h1 h2 S s1 s2 => key ((ae_ev ρ t.rk).toNat + 1) t ht ρ g1 g2 h1 h2 S s1 s2 (by omega)
theorem bb_all (hr : ae_rok = true) (hf : ae_fok = true) (hL : L ≤ 3072) (hct : ∀ c ∈ W.p.cts, ae_CT c) (hmo : ae_sub2 W.p.mo W.mo = true) (hG : ∀ h h', G h → ae_fr W.p.mo L xs h h' → G h') (hH : bb_HOK W G L xs Q) {r0 : Nat → Int}
    (hT : ∀ t ∈ W.tms, (∃ n f1 f2, bb_chk W n f1 f2 t = true) ∨ bb_ok W G L xs Q r0 t) : ∀ t ∈ W.tms, bb_ok W G L xs Q r0 t :=
  bb_allr hr hf hL hct hmo hG (hH.r r0) hT
end ABF

/-! Pairs of calls that are known, the numbers that go in told by those who call -/
/-- how a state fits: what was looked at, what the template's symbols are -/
noncomputable def ab_ml (R : Nat) (z : ab_St) (t : ab_Tm) : Option (ab_Lz × List ae_X) :=
  bif Nat.blt 0 R && ab_ctl z.t1.1 t.st.t1.1 && ab_ctl z.t2.1 t.st.t2.1 && ab_nl t.st.o && ab_nl t.st.w then
    (ab_lds z.T z.w t.st.m z.k (ab_vp z.k z.m) z.o).bind fun q => (ap_ss q.1 q.2.1 z.t1 z.t2 t.si (ap_s0 R)).bind fun l => bif l.all (fun e => ae_wb q.1.1 e.2) && ap_km q.1 l t.st.k && ab_mm q.1 l q.2.1 t.st.m && ap_tm q.1 l z.t1 t.st.t1 && ap_tm q.1 l z.t2 t.st.t2 && ab_ric2 q.1 q.2.1 q.2.2 z.w z.T t.st.T then some (q, l) else none
  else none
section ABN
variable {G : List am_E → Prop} {L : Nat} {xs : Nat → Int32} {ρ : Nat → Int} {g1 g2 : ap_cT} {h1 h2 : List am_E}
theorem ab_ml_ok (hr : ae_rok = true) (hf : ae_fok = true) {R : Nat} {z : ab_St} {t : ab_Tm} {kq : ab_Lz} {l : List ae_X} (q : ab_ml R z t = some (kq, l)) (S : ab_sat G L xs ρ z g1 g2 h1 h2) (hR : R ≤ z.k.1) : ∃ ρ1, ae_up2 ρ z.k ρ1 kq.1 ∧ ae_hp false kq.1.1 ρ1 L xs kq.2.1 (am_mX2 ap_b false h1 h2) ∧ ab_sat G L xs (ap_ρ ρ1 l) t.st g1 g2 h1 h2 ∧ (∀ s, s < R → l.getD s (ae_num 0) = ae_sym s) ∧ t.st.k.1 = l.length ∧ ∀ e ∈ l, ae_wt kq.1.1 e.2 := by
  obtain ⟨S1, S2, S4, S5, S6, S7, S8, S9, h0, r1, r2, r3⟩ := S
  unfold ab_ml at q
  cases hb : Nat.blt 0 R && ab_ctl z.t1.1 t.st.t1.1 && ab_ctl z.t2.1 t.st.t2.1 && ab_nl t.st.o && ab_nl t.st.w with
  | false => rw [hb] at q; cases q
  | true =>
  rw [hb] at q
  simp only [Bool.and_eq_true] at hb
  have hR0 : 0 < R := Nat.blt_eq.mp hb.1.1.1.1
  have ho := ab_nl_ok hb.1.2
  obtain ⟨kq', hl, q⟩ := Option.bind_eq_some_iff.mp (show ((ab_lds z.T z.w t.st.m z.k (ab_vp z.k z.m) z.o).bind fun q => (ap_ss q.1 q.2.1 z.t1 z.t2 t.si (ap_s0 R)).bind fun l => bif l.all (fun e => ae_wb q.1.1 e.2) && ap_km q.1 l t.st.k && ab_mm q.1 l q.2.1 t.st.m && ap_tm q.1 l z.t1 t.st.t1 && ap_tm q.1 l z.t2 t.st.t2 && ab_ric2 q.1 q.2.1 q.2.2 z.w z.T t.st.T then some (q, l) else none) = some (kq, l) from q)
  obtain ⟨l', hs, q⟩ := Option.bind_eq_some_iff.mp q
  obtain ⟨q, e⟩ := ae_bif q
  cases e
  have H1 := ab_vp_ok hf S1 S4
  obtain ⟨ρ1, u, H2, O2⟩ := ab_lds_ok hr r1 r2 S1 H1 r3 hl
  · · simp only [Bool.and_eq_true] at q
      obtain ⟨⟨⟨⟨⟨q0, q1⟩, q2⟩, q3⟩, q4⟩, q5⟩ := q
      have T1 := ap_tt_ext u.1 u.2.1 S5
      have T2 := ap_tt_ext u.1 u.2.1 S6
      have K1 := u.2.2
      have RI2 := ab_ric2_ok hr K1 H2 r1 r2 O2 q5
      obtain ⟨lm, hlm⟩ := ap_ss_pre hs
      have hl0 : ∀ s, s < R → l.getD s (ae_num 0) = ae_sym s := by
        intro s hs'
        rw [hlm, List.getD_eq_getElem?_getD, List.getElem?_append_left (by unfold ap_s0; rw [List.length_map, List.length_range]; exact hs')]
        unfold ap_s0
        rw [List.getElem?_map, List.getElem?_range hs']
        rfl
      have hlen : R ≤ l.length := by
        rw [hlm, List.length_append]
        unfold ap_s0
        rw [List.length_map, List.length_range]
        omega
      have hwl : ∀ e ∈ l, ae_wt kq.1.1 e.2 := fun e he => ae_wb_ok (List.all_eq_true.mp q0 e he)
      generalize hσ : l = σ at q1 q2 q3 q4 q5 hl0 hlen hwl ⊢
      unfold ap_km at q1
      simp only [Bool.and_eq_true] at q1
      obtain ⟨⟨⟨n1, n2⟩, n3⟩, n4⟩ := q1
      have n1 := Nat.eq_of_beq_eq_true n1
      have hsf : ∀ e, ae_ev ρ1 (ap_su σ e) = ae_ev (ap_ρ ρ1 σ) e := fun e => ap_su_ev ρ1 σ e
      have KT : ae_okK (ap_ρ ρ1 σ) t.st.k := by
        refine ⟨fun b hb => ?_, fun f hf' => ?_, fun d hd => ?_⟩
        · have h3 := List.all_eq_true.mp n2 b hb
          rw [Bool.and_eq_true] at h3
          have h4 := ae_rg_ok K1 h3.2
          exact ⟨Nat.blt_eq.mp h3.1, h4.1, h4.2⟩
        · have h3 := List.all_eq_true.mp n3 f hf'
          rw [Bool.and_eq_true] at h3
          have h4 := ae_z_ok K1 h3.2
          rw [hsf] at h4
          exact ⟨by rw [n1]; exact ae_wb_ok h3.1, h4⟩
        · revert hd n4
          cases t.st.k.2.2.2 with
          | nil => intro _ hd; exact absurd hd List.not_mem_nil
          | cons _ _ => intro h _; cases h
      have K0 : ae_k0 (ap_ρ ρ1 σ) L t.st.k := by
        refine ⟨⟨by rw [n1]; omega, S2.1.2⟩, ?_⟩
        show ae_ev ρ1 (σ.getD 0 (ae_num 0)) = (L : Int)
        rw [hl0 0 hR0]
        have h3 := ae_k0_up S2 u
        have h4 := (ae_sym_dn (n := kq.1.1) (ρ := ρ1) (s := 0) h3.1.1).2
        rw [h4]
        exact h3.2
      unfold ab_mm at q2
      rw [Bool.and_eq_true] at q2
      have m1e : ∀ {t' m' : ae_M}, ap_m1 kq.1 σ t' m' = true → ∀ j : Nat, ae_dn kq.1.1 ρ1 m'.2.1 (j : Int) → m'.1 = t'.1 ∧ ae_ev (ap_ρ ρ1 σ) t'.2.1 = (j : Int) ∧ ap_vm kq.1 σ m'.2.2.1 t'.2.2.1 = true := by
        intro t' m' h7 j e1
        unfold ap_m1 at h7
        simp only [Bool.and_eq_true] at h7
        obtain ⟨⟨h8, h9⟩, h10⟩ := h7
        refine ⟨Nat.eq_of_beq_eq_true h8, ?_, h10⟩
        cases hb : ae_kc t'.2.1 && ae_kc m'.2.1 with
        | true =>
          rw [hb] at h9
          have h9 := ae_ie_ok h9
          rw [Bool.and_eq_true] at hb
          have kc : ∀ {e : ae_X}, ae_kc e = true → ∀ r, ae_ev r e = e.1 := by
            intro e he r
            unfold ae_kc at he
            unfold ae_ev
            revert he
            cases e.2 with
            | nil => intro _; exact Int.add_zero _
            | cons _ _ => intro h; cases h
          rw [kc hb.1, ← h9, ← kc hb.2 ρ1]
          exact e1.2
        | false =>
          rw [hb] at h9
          have h9 := ae_rg_ok K1 h9
          rw [ae_sub_ev, hsf, e1.2] at h9
          omega
      have HT : ae_hp false t.st.k.1 (ap_ρ ρ1 σ) L xs t.st.m (am_mX2 ap_b false h1 h2) := by
        have wtt : ∀ m ∈ t.st.m, ae_wt t.st.k.1 m.2.1.2 := fun m hm => by
          have h3 := List.all_eq_true.mp q2.1 m hm
          rw [Bool.and_eq_true] at h3
          rw [n1]; exact ae_wb_ok h3.1
        have dyt : ∀ p j, ae_dy ρ1 kq.2.1 p j → ae_dy (ap_ρ ρ1 σ) t.st.m p j := by
          intro p j ⟨m', f1, f2, f3, f4⟩
          have h3 := List.all_eq_true.mp q2.2 m' f1
          rw [f2] at h3
          have h3 : (t.st.m.any fun t => t.2.2.2 && ap_m1 kq.1 σ t m') = true := h3
          obtain ⟨t', g1, g2⟩ := List.any_eq_true.mp h3
          rw [Bool.and_eq_true] at g2
          obtain ⟨j', v, e1, e2, e3⟩ := H2.2.1 m' f1
          have ej : j' = j := by have := e1.2; rw [f4] at this; omega
          subst ej
          obtain ⟨k1, k2, -⟩ := m1e g2.2 j' e1
          exact ⟨t', g1, g2.1, by rw [← k1]; exact f3, k2⟩
        refine ⟨H2.1, fun m hm => ?_, fun p j v hp hc => ?_, fun f hfm i hi => ?_⟩
        · have h3 := List.all_eq_true.mp q2.1 m hm
          rw [Bool.and_eq_true] at h3
          obtain ⟨m', f1, h7⟩ := List.any_eq_true.mp h3.2
          obtain ⟨j, v, e1, e2, e3⟩ := H2.2.1 m' f1
          obtain ⟨k1, k2, k3⟩ := m1e h7 j e1
          rw [k1] at e2
          exact ⟨j, v, ⟨wtt m hm, k2⟩, e2, by rw [n1]; exact ap_vm_ok K1 k3 e3⟩
        · rcases H2.2.2.1 p j v hp hc with g | g | g
          · exact Or.inl g
          · exact Or.inr (Or.inl (dyt p j g))
          · exact Or.inr (Or.inr g)
        · rcases H2.2.2.2 f hfm i hi with g | ⟨o, ho, g⟩ | g
          · exact Or.inl g
          · exact Or.inr (Or.inl ⟨o, ho, dyt _ _ g⟩)
          · exact Or.inr (Or.inr g)
      refine ⟨ρ1, u, H2, ⟨KT, K0, HT, ?_, ?_, S7, S8, S9, _, RI2, ae_fr_rf _ _ _ _, fun m hm => ?_⟩, hl0, n1, hwl⟩
      · rw [n1]; exact ap_tm_ok K1 q3 T1
      · rw [n1]; exact ap_tm_ok K1 q4 T2
      · rw [ho] at hm; exact absurd hm List.not_mem_nil
end ABN
/-- where it begins (all its symbols but the first ones to be found in those who call), where it may end, what is written, how many symbols stay in it, how many stay in those who call -/
abbrev ab_Pd : Type := ab_Tm × List ab_Tm × ae_Mo × Nat × Nat
noncomputable def ab_PdOK (G : (Nat → Int) → List am_E → Prop) (L : Nat) (xs : Nat → Int32) (c : ab_Pd) : Prop := ∀ r0 ρ g1 g2 h1 h2, ab_sat (G r0) L xs ρ c.1.st g1 g2 h1 h2 → (∀ s, s < c.2.2.2.1 → ρ s = r0 s) → ap_end c.2.2.1 L xs (ab_pe (G r0) L xs c.2.2.2.1 r0 c.2.1) g1 g2 h1 h2
noncomputable def ab_ds (n R m : Nat) (l : List ae_X) : List ae_X := l.take R ++ (List.range (m - R)).map fun i => ae_sym (n + i)
noncomputable def ab_dv2 (σ : List ae_X) (v : ae_V) : ae_V := (v.1, v.2.1, ap_su σ v.2.2)
noncomputable def ab_dme (σ : List ae_X) (m : ae_M) : ae_M := (m.1, ap_su σ m.2.1, ab_dv2 σ m.2.2.1, false)
noncomputable def ab_dk (R : Nat) (σ : List ae_X) (k e : ae_K) : ae_K := (k.1 + (e.1 - R), ab_gb k.1 R e.2.1 ++ k.2.1, e.2.2.1.map (ap_su σ) ++ k.2.2.1, k.2.2.2)
noncomputable def ab_dm (mo : ae_Mo) (σ : List ae_X) (k : ae_K) (M : List ae_M) (e : ab_Tm) : List ae_M := e.st.m.map (ab_dme σ) ++ M.filter (ae_ou k mo)
/-- further ties that nobody has touched -/
noncomputable def ab_dr (l s : List ab_Ti) : List ab_Ti := List.rec (motive := fun _ => List ab_Ti → List ab_Ti) (fun l => l) (fun _ _ r l => match l with
  | [] => []
  | _ :: l => r l) s l
theorem ab_dr_mem : ∀ {s l : List ab_Ti} {t : ab_Ti}, t ∈ ab_dr l s → t ∈ l
  | [], _, _, h => h
  | _ :: _, [], _, h => absurd h List.not_mem_nil
  | _ :: s, _ :: l, _, h => List.mem_cons_of_mem _ (ab_dr_mem (s := s) (l := l) h)
noncomputable def ab_kt (w mo : ae_Mo) (l : List ab_Ti) : List ab_Ti := l.filter fun t => ab_nw w t && ab_nw mo t
noncomputable def ab_d1 (R : Nat) (mo : ae_Mo) (w : ae_Mo) (T : List ab_Ti) (l : List ae_X) (k : ae_K) (M : List ae_M) (r1 r2 : List ap_F) (e : ab_Tm) : ab_St := (ab_dk R (ab_ds k.1 R e.st.k.1 l) k e.st.k, ab_dm mo (ab_ds k.1 R e.st.k.1 l) k M e, ab_dm mo (ab_ds k.1 R e.st.k.1 l) k M e, [], e.st.T ++ ab_kt w mo (ab_dr T e.st.T), ap_pop (e.st.t1.2.map (ab_dv2 (ab_ds k.1 R e.st.k.1 l))) r1, ap_pop (e.st.t2.2.map (ab_dv2 (ab_ds k.1 R e.st.k.1 l))) r2)
/-- the hook -/
noncomputable def ab_pdh (c : ab_Pd) (z : ab_St) : Option (List ab_St) := match z.t1.1 with
  | f1 :: r1 => (match z.t2.1 with
    | f2 :: r2 => bif c.2.1.all (ab_pz c.2.2.2.1) && Nat.ble c.2.2.2.2 c.2.2.2.1 && Nat.ble c.2.2.2.1 c.1.st.k.1 then
        (ab_ml c.2.2.2.2 (z.k, z.m, z.o, z.w, z.T, ([f1], none), ([f2], none)) c.1).bind fun y => (match y with
          | ((k, M, _), l) => (ae_vd false k M).map fun M' => c.2.1.map (ab_d1 c.2.2.2.1 c.2.2.1 z.w z.T l k M' r1 r2))
      else none
    | [] => none)
  | [] => none
section ABQ
variable {ρ ρE : Nat → Int} {n R m : Nat} {l σ : List ae_X}
theorem ap_su_wt (h : ∀ e ∈ σ, ae_wt n e.2) : ∀ t : ae_T, ae_wt n (ap_sut σ t).2
  | [] => trivial
  | t :: r => by
    have d1 : ae_wt n (σ.getD t.1 (ae_num 0)).2 := by
      rw [List.getD_eq_getElem?_getD]
      cases hq : σ[t.1]? with
      | none => exact trivial
      | some e => exact h e (List.mem_of_getElem? hq)
    exact (ae_add_dn (ρ := fun _ => 0) (ae_scl_dn ⟨d1, rfl⟩ t.2) ⟨ap_su_wt h r, rfl⟩).1
theorem ab_ds_wt (hl : ∀ e ∈ l, ae_wt n e.2) : ∀ e ∈ ab_ds n R m l, ae_wt (n + (m - R)) e.2 := fun e he => by
  rcases List.mem_append.mp he with he | he
  · exact ae_wt_le (Nat.le_add_right _ _) (hl e (List.mem_of_mem_take he))
  · obtain ⟨i, hi, rfl⟩ := List.mem_map.mp he
    have hi := List.mem_range.mp hi
    exact ⟨by show n + i < n + (m - R); omega, trivial⟩
/-- what the symbols of the end are, for those who call -/
theorem ab_ds_ev (hR : R ≤ l.length) (hm : R ≤ m) (hl : ∀ e ∈ l, ae_wt n e.2) (e : ∀ s, s < R → ae_ev ρ (l.getD s (ae_num 0)) = ρE s) {s : Nat} (hs : s < m) : ap_ρ (ab_gr ρ ρE n R) (ab_ds n R m l) s = ρE s := by
  have ag : ae_ag n ρ (ab_gr ρ ρE n R) := ab_gr_ag
  have lt : (l.take R).length = R := by rw [List.length_take]; omega
  show ae_ev (ab_gr ρ ρE n R) ((ab_ds n R m l).getD s (ae_num 0)) = ρE s
  unfold ab_ds
  by_cases h : s < R
  · rw [List.getD_eq_getElem?_getD, List.getElem?_append_left (by omega), List.getElem?_take, if_pos h, ← List.getD_eq_getElem?_getD]
    have hw : ae_wt n (l.getD s (ae_num 0)).2 := by
      rw [List.getD_eq_getElem?_getD, List.getElem?_eq_getElem (by omega)]
      exact hl _ (List.getElem_mem _)
    rw [ae_ev_ag ag hw]
    exact e s h
  · rw [List.getD_eq_getElem?_getD, List.getElem?_append_right (by omega), lt, List.getElem?_map, List.getElem?_range (by omega)]
    show ae_ev (ab_gr ρ ρE n R) (ae_sym (n + (s - R))) = ρE s
    rw [(ae_sym_dn (n := n + (s - R) + 1) (ρ := ab_gr ρ ρE n R) (Nat.lt_succ_self _)).2]
    unfold ab_gr
    have h2 : Nat.blt (n + (s - R)) n = false := by
      cases hc : Nat.blt (n + (s - R)) n with
      | false => rfl
      | true => have := Nat.blt_eq.mp hc; omega
    rw [h2]
    show ρE (n + (s - R) - n + R) = ρE s
    rw [show n + (s - R) - n + R = s by omega]
theorem ab_dx_dn (hR : R ≤ l.length) (hm : R ≤ m) (hl : ∀ e ∈ l, ae_wt n e.2) (e : ∀ s, s < R → ae_ev ρ (l.getD s (ae_num 0)) = ρE s) {x : ae_X} {v : Int} (d : ae_dn m ρE x v) : ae_dn (n + (m - R)) (ab_gr ρ ρE n R) (ap_su (ab_ds n R m l) x) v := by
  refine ⟨ap_su_wt (ab_ds_wt hl) x.2, ?_⟩
  rw [ap_su_ev, ae_ev_ag (n := m) (ρ := ρE) (fun s hs => ab_ds_ev hR hm hl e hs) d.1]
  exact d.2
theorem ab_dv_ok (hR : R ≤ l.length) (hm : R ≤ m) (hl : ∀ e ∈ l, ae_wt n e.2) (e : ∀ s, s < R → ae_ev ρ (l.getD s (ae_num 0)) = ρE s) {a : ae_V} {v : Value} (h : ae_ok m ρE a v) : ae_ok (n + (m - R)) (ab_gr ρ ρE n R) (ab_dv2 (ab_ds n R m l) a) v := by
  obtain ⟨t, q, x⟩ := a
  unfold ab_dv2
  unfold ae_ok at h ⊢
  match t, h with
  | 0, h => obtain ⟨y, h1, h2⟩ := h; exact ⟨y, h1, ab_dx_dn hR hm hl e h2⟩
  | 1, h => obtain ⟨y, h1, h2⟩ := h; exact ⟨y, h1, ab_dx_dn hR hm hl e h2⟩
  | 2, h => exact h
  | 3, h => exact h
  | 4, h => obtain ⟨y, h1, h2⟩ := h; exact ⟨y, ab_dx_dn hR hm hl e h1, h2⟩
  | t + 5, h => exact absurd h id
theorem ab_dro_ok (hR : R ≤ l.length) (hm : R ≤ m) (hl : ∀ e ∈ l, ae_wt n e.2) (e : ∀ s, s < R → ae_ev ρ (l.getD s (ae_num 0)) = ρE s) {a : Option ae_V} {r : Option Value} (h : ae_ro m ρE a r) : ae_ro (n + (m - R)) (ab_gr ρ ρE n R) (a.map (ab_dv2 (ab_ds n R m l))) r := by
  cases a with
  | none => exact h
  | some a => obtain ⟨w, h1, h2⟩ := h; exact ⟨w, h1, ab_dv_ok hR hm hl e h2⟩
theorem ab_dk_ok {k kE : ae_K} (hR : R ≤ l.length) (hm : R ≤ kE.1) (hl : ∀ e ∈ l, ae_wt k.1 e.2) (e : ∀ s, s < R → ae_ev ρ (l.getD s (ae_num 0)) = ρE s) (K : ae_okK ρ k) (KE : ae_okK ρE kE) : ae_okK (ab_gr ρ ρE k.1 R) (ab_dk R (ab_ds k.1 R kE.1 l) k kE) := by
  have K2 := ae_okK_ext K (ab_gr_ag (ρE := ρE) (R := R))
  have le : k.1 ≤ k.1 + (kE.1 - R) := Nat.le_add_right _ _
  refine ⟨fun q hq => ?_, fun f hf => ?_, fun d hd => ⟨ae_wt_le le (K2.2.2 d hd).1, Nat.lt_of_lt_of_le (K2.2.2 d hd).2.1 le, (K2.2.2 d hd).2.2⟩⟩
  · rcases List.mem_append.mp hq with hq | hq
    · obtain ⟨b, hb, rfl⟩ := List.mem_map.mp hq
      obtain ⟨hb1, hb2⟩ := List.mem_filter.mp hb
      have h1 := KE.1 b hb1
      have h2 : ¬ b.1 < R := fun q => by rw [Nat.blt_eq.mpr q] at hb2; cases hb2
      have hg : ab_gs k.1 R b.1 = k.1 + (b.1 - R) := by
        unfold ab_gs
        cases hc : Nat.blt b.1 R with
        | true => exact absurd (Nat.blt_eq.mp hc) h2
        | false => rfl
      have hv : ab_gr ρ ρE k.1 R (k.1 + (b.1 - R)) = ρE b.1 := by
        unfold ab_gr
        have h3 : Nat.blt (k.1 + (b.1 - R)) k.1 = false := by
          cases hc : Nat.blt (k.1 + (b.1 - R)) k.1 with
          | false => rfl
          | true => have := Nat.blt_eq.mp hc; omega
        rw [h3]
        show ρE (k.1 + (b.1 - R) - k.1 + R) = ρE b.1
        rw [show k.1 + (b.1 - R) - k.1 + R = b.1 by omega]
      show ab_gs k.1 R b.1 < k.1 + (kE.1 - R) ∧ b.2.1 ≤ ab_gr ρ ρE k.1 R (ab_gs k.1 R b.1) ∧ ab_gr ρ ρE k.1 R (ab_gs k.1 R b.1) ≤ b.2.2
      rw [hg, hv]
      exact ⟨by have := h1.1; omega, h1.2⟩
    · exact ⟨Nat.lt_of_lt_of_le (K2.1 q hq).1 le, (K2.1 q hq).2⟩
  · rcases List.mem_append.mp hf with hf | hf
    · obtain ⟨f0, m0, rfl⟩ := List.mem_map.mp hf
      have h1 := KE.2.1 f0 m0
      have d := ab_dx_dn (m := kE.1) hR hm hl e (⟨h1.1, rfl⟩ : ae_dn kE.1 ρE f0 _)
      exact ⟨d.1, by rw [d.2]; exact h1.2⟩
    · exact ⟨ae_wt_le le (K2.2.1 f hf).1, (K2.2.1 f hf).2⟩
end ABQ
theorem ab_pdh_ok (hr : ae_rok = true) (hf : ae_fok = true) {G : (Nat → Int) → List am_E → Prop} {L : Nat} {xs : Nat → Int32} {c : ab_Pd} (hc : ab_PdOK G L xs c) (hG : ∀ r r' h, (∀ s, s < c.2.2.2.2 → r s = r' s) → G r h → G r' h) {r0 ρ : Nat → Int} {mo : ae_Mo} {Q : Option Value → Option Value → List am_E → List am_E → Prop} (hmo : ae_sub2 c.2.2.1 mo = true) {z : ab_St} {o : List ab_St} {g1 g2 : ap_cT} {h1 h2 : List am_E} (q : ab_pdh c z = some o) (S : ab_sat (G r0) L xs ρ z g1 g2 h1 h2) (s1 : c.2.2.2.2 ≤ z.k.1) (s2 : ∀ s, s < c.2.2.2.2 → ρ s = r0 s) :
    ∃ z' ∈ o, ∃ ρ' g1' g2' h1' h2', ae_up2 ρ z.k ρ' z'.k ∧ ab_sat (G r0) L xs ρ' z' g1' g2' h1' h2' ∧ (ap_end mo L xs Q g1' g2' h1' h2' → ap_end mo L xs Q g1 g2 h1 h2) := by
  obtain ⟨S1, S2, S4, S5, S6, S7, S8, S9, S10⟩ := S
  unfold ab_pdh at q
  split at q <;> try (cases q; done)
  rename_i f1 r1 ht1
  split at q <;> try (cases q; done)
  rename_i f2 r2 ht2
  obtain ⟨hb, q⟩ := ae_bif q
  simp only [Bool.and_eq_true] at hb
  obtain ⟨⟨b0, b1⟩, b2⟩ := hb
  have b1 := Nat.le_of_ble_eq_true b1
  have b2 := Nat.le_of_ble_eq_true b2
  obtain ⟨⟨⟨kk, MM, OO⟩, l⟩, hy, q⟩ := Option.bind_eq_some_iff.mp q
  have q : ((ae_vd false kk MM).map fun M' => c.2.1.map (ab_d1 c.2.2.2.1 c.2.2.1 z.w z.T l kk M' r1 r2)) = some o := q
  obtain ⟨M', hM, rfl⟩ := Option.map_eq_some_iff.mp q
  obtain ⟨gf1, gv1⟩ := g1
  obtain ⟨gf2, gv2⟩ := g2
  have T1 := S5.1
  have T2 := S6.1
  rw [ht1] at T1
  rw [ht2] at T2
  cases gf1 with
  | nil => exact absurd T1 id
  | cons c1 cs1 =>
  cases gf2 with
  | nil => exact absurd T2 id
  | cons c2 cs2 =>
  have SS0 : ab_sat (G r0) L xs ρ (z.k, z.m, z.o, z.w, z.T, ([f1], none), ([f2], none)) ([c1], none) ([c2], none) h1 h2 := ⟨S1, S2, S4, ⟨⟨T1.1, trivial⟩, fun e => by cases e⟩, ⟨⟨T2.1, trivial⟩, fun e => by cases e⟩, S7, S8, S9, S10⟩
  obtain ⟨ρ1, u, HH, SS, l0, ln, lw⟩ := ab_ml_ok hr hf hy SS0 s1
  have u : ae_up2 ρ z.k ρ1 kk := u
  have HH : ae_hp false kk.1 ρ1 L xs MM (am_mX2 ap_b false h1 h2) := HH
  have lw : ∀ e ∈ l, ae_wt kk.1 e.2 := lw
  obtain ⟨H1, D1⟩ := ae_vd_ok hf u.2.2 HH hM
  -- what stays in those who call
  have rr : ∀ s, s < c.2.2.2.2 → r0 s = ap_ρ ρ1 l s := fun s hs => by
    show r0 s = ae_ev ρ1 (l.getD s (ae_num 0))
    rw [l0 s hs, (ae_sym_dn (n := kk.1) (ρ := ρ1) (s := s) (by have := u.1; omega)).2]
    exact ((u.2.1 s (by omega)).trans (s2 s hs)).symm
  obtain ⟨A1, A2, A4, A5, A6, A7, A8, A9, A10⟩ := SS
  obtain ⟨v1, e1, v2, e2, p1, p2, p3, p4, p5, e, he, ρE, pr, SE⟩ := hc (ap_ρ ρ1 l) (ap_ρ ρ1 l) _ _ h1 h2 ⟨A1, A2, A4, A5, A6, A7, A8, hG _ _ _ rr A9, A10⟩ (fun _ _ => rfl)
  obtain ⟨E1, E2, E4, E5, E6, E7, E8, E9, h0, E10, E11, -⟩ := SE
  have bz := List.all_eq_true.mp b0 e he
  unfold ab_pz at bz
  simp only [Bool.and_eq_true] at bz
  obtain ⟨⟨⟨⟨y1, y2⟩, y3⟩, y4⟩, y5⟩ := bz
  have hm := Nat.le_of_ble_eq_true y4
  have hR : c.2.2.2.1 ≤ l.length := by rw [← ln]; exact b2
  have er : ∀ s, s < c.2.2.2.1 → ae_ev ρ1 (l.getD s (ae_num 0)) = ρE s := fun s hs => (pr s hs).symm
  have kE : ae_hk false L xs (am_mX2 ap_b false e1 e2) := aq_hk_sat hf E4 (fun m hm => by simpa using List.all_eq_true.mp y5 m hm)
  have up1 : ae_up2 ρ1 kk (ab_gr ρ1 ρE kk.1 c.2.2.2.1) (ab_dk c.2.2.2.1 (ab_ds kk.1 c.2.2.2.1 e.st.k.1 l) kk e.st.k) := ⟨Nat.le_add_right _ _, ab_gr_ag, ab_dk_ok hR hm lw er u.2.2 E1⟩
  have up := u.tr up1
  rw [ab_nl_ok y3] at E11
  obtain ⟨hb0, B1, B2, -⟩ := S10
  have KT : ab_RI (e.st.T ++ ab_kt z.w c.2.2.1 (ab_dr z.T e.st.T)) (ab_cv L xs (am_mX2 ap_b false e1 e2)) := fun t ht i hi => by
    rcases List.mem_append.mp ht with ht | ht
    · exact ab_RI_eq (fun p j => ab_cv_fr E11 rfl) E10 t ht i hi
    · obtain ⟨m1, m2⟩ := List.mem_filter.mp ht
      rw [Bool.and_eq_true] at m2
      exact ab_nw_ok p5 hi m2.2 (ab_nw_ok B2 hi m2.1 (B1 t (ab_dr_mem m1) i hi))
  have eo : ∀ m ∈ ab_dm c.2.2.1 (ab_ds kk.1 c.2.2.2.1 e.st.k.1 l) kk M' e, ae_eo (ab_dk c.2.2.2.1 (ab_ds kk.1 c.2.2.2.1 e.st.k.1 l) kk e.st.k).1 (ab_gr ρ1 ρE kk.1 c.2.2.2.1) L xs (am_mX2 ap_b false e1 e2) m := fun m hmm => by
    rcases List.mem_append.mp hmm with hmm | hmm
    · obtain ⟨m0, hm0, rfl⟩ := List.mem_map.mp hmm
      obtain ⟨j, v, d1, d2, d3⟩ := E4.2.1 m0 hm0
      exact ⟨j, v, ab_dx_dn hR hm lw er d1, d2, ab_dv_ok hR hm lw er d3⟩
    · obtain ⟨m1, m2⟩ := List.mem_filter.mp hmm
      obtain ⟨j, v, d1, d2, d3⟩ := H1.2.1 m m1
      exact ae_eo_ext up1.1 up1.2.1 ⟨j, v, d1, (p5 m.1 j (ae_ou_ok u.2.2 d1.2 m2)).trans d2, d3⟩
  refine ⟨_, List.mem_map.mpr ⟨e, he, rfl⟩, ab_gr ρ1 ρE kk.1 c.2.2.2.1, am_pp v1 cs1, am_pp v2 cs2, e1, e2, up, ⟨up.2.2, ae_k0_up S2 up, ?_, am_pp_tt (ap_ff_ext up.1 up.2.1 T1.2) (ab_dro_ok hR hm lw er (E5.2 (ab_nl_ok y1))), am_pp_tt (ap_ff_ext up.1 up.2.1 T2.2) (ab_dro_ok hR hm lw er (E6.2 (ab_nl_ok y2))), E7, E8, hG _ _ _ (fun s hs => (rr s hs).symm) E9, ⟨_, KT, ae_fr_rf _ _ _ _, eo⟩⟩, fun fin => ?_⟩
  · have := ae_hp_add (A := ab_dm c.2.2.1 (ab_ds kk.1 c.2.2.2.1 e.st.k.1 l) kk M' e) (ae_hp_of (ρ := ab_gr ρ1 ρE kk.1 c.2.2.2.1) (ab_dk c.2.2.2.1 (ab_ds kk.1 c.2.2.2.1 e.st.k.1 l) kk e.st.k).1 kE) eo
    rwa [List.append_nil] at this
  · obtain ⟨a1, d1, a2, d2, w1, w2, w3, w4, w5, w6⟩ := fin
    exact ⟨a1, d1, a2, d2, am_pp_run p1 w1, am_pp_run p2 w2, ap_sm_tr p3 w3, ap_sm_tr p4 w4, ae_fr_tr (fun p j hp => p5 p j (ae_sub2_ok hmo hp)) w5, w6⟩
/-- what no call touches may be known besides -/
theorem ab_PdOK_and {G P : (Nat → Int) → List am_E → Prop} {L : Nat} {xs : Nat → Int32} {c : ab_Pd} (hc : ab_PdOK G L xs c) (hP : ∀ r h h', ae_fr c.2.2.1 L xs h h' → P r h → P r h') : ab_PdOK (fun r h => G r h ∧ P r h) L xs c := by
  intro r0 ρ g1 g2 h1 h2 S e
  obtain ⟨S1, S2, S4, S5, S6, S7, S8, S9, S10⟩ := S
  obtain ⟨v1, e1, v2, e2, p1, p2, p3, p4, p5, t, ht, ρE, pr, SE⟩ := hc r0 ρ g1 g2 h1 h2 ⟨S1, S2, S4, S5, S6, S7, S8, S9.1, S10⟩ e
  obtain ⟨E1, E2, E4, E5, E6, E7, E8, E9, E10⟩ := SE
  exact ⟨v1, e1, v2, e2, p1, p2, p3, p4, p5, t, ht, ρE, pr, E1, E2, E4, E5, E6, E7, E8, ⟨E9, hP r0 _ _ p5 S9.2⟩, E10⟩

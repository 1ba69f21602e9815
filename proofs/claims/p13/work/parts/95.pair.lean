/-! Both threads: states, meeting points, the way from one to the next -/
abbrev ap_St : Type := ae_K × List (List ae_X) × List ae_M × ap_T × ap_T
abbrev ap_St.k (z : ap_St) : ae_K := z.1
abbrev ap_St.cl (z : ap_St) : List (List ae_X) := z.2.1
abbrev ap_St.m (z : ap_St) : List ae_M := z.2.2.1
abbrev ap_St.t1 (z : ap_St) : ap_T := z.2.2.2.1
abbrev ap_St.t2 (z : ap_St) : ap_T := z.2.2.2.2
/-- where a symbol of a meeting point is found: 0 a cell; 1, 2 a local of a frame; 3, 4 a stack's place; 5, 6 an answer -/
abbrev ap_Si : Type := Nat × Nat × Nat
abbrev ap_Tm : Type := ap_St × List ap_Si × ae_X
abbrev ap_Tm.st (t : ap_Tm) : ap_St := t.1
abbrev ap_Tm.si (t : ap_Tm) : List ap_Si := t.2.1
abbrev ap_Tm.rk (t : ap_Tm) : ae_X := t.2.2
/-- how to walk: where a thread waits, where clauses are looked through, where something is known of both at once, the meeting points, who goes on where no meeting point fits -/
abbrev ap_W : Type := ap_P × (Nat → Nat → Bool) × (Nat → Nat → Bool) × (Bool → Bool → ap_St → Bool) × (ap_St → Option (List ap_St)) × List ap_Tm × (ap_St → Option (Bool × Bool)) × Nat
abbrev ap_W.p (W : ap_W) : ap_P := W.1
abbrev ap_W.wt (W : ap_W) : Nat → Nat → Bool := W.2.1
abbrev ap_W.pr (W : ap_W) : Nat → Nat → Bool := W.2.2.1
abbrev ap_W.hf (W : ap_W) : Bool → Bool → ap_St → Bool := W.2.2.2.1
abbrev ap_W.hk (W : ap_W) : ap_St → Option (List ap_St) := W.2.2.2.2.1
abbrev ap_W.tms (W : ap_W) : List ap_Tm := W.2.2.2.2.2.1
abbrev ap_W.ov (W : ap_W) : ap_St → Option (Bool × Bool) := W.2.2.2.2.2.2.1
abbrev ap_W.r (W : ap_W) : Nat := W.2.2.2.2.2.2.2
noncomputable def ap_clk (n : Nat) (ρ : Nat → Int) (C : List (List ae_X)) : Prop := ∀ c ∈ C, (∀ e ∈ c, ae_wt n e.2) ∧ ∃ e ∈ c, ae_ev ρ e ≤ 0
noncomputable def ap_sat (G : List am_E → Prop) (L : Nat) (xs : Nat → Int32) (ρ : Nat → Int) (z : ap_St) (g1 g2 : ap_cT) (h1 h2 : List am_E) : Prop :=
  ae_okK ρ z.k ∧ ae_k0 ρ L z.k ∧ ap_clk z.k.1 ρ z.cl ∧ ae_hp true z.k.1 ρ L xs z.m (am_mX2 ap_b false h1 h2) ∧ ap_tt z.k.1 ρ z.t1 g1 ∧ ap_tt z.k.1 ρ z.t2 g2 ∧ ap_hx true L xs false h1 ∧ ap_hx true L xs true h2 ∧ G (am_mX2 ap_b false h1 h2)
noncomputable def ap_end (mo : ae_Mo) (L : Nat) (xs : Nat → Int32) (Q : Option Value → Option Value → List am_E → List am_E → Prop) (g1 g2 : ap_cT) (h1 h2 : List am_E) : Prop :=
  ∃ v1 e1 v2 e2, ap_run L xs g1 h1 (v1, e1) ∧ ap_run L xs g2 h2 (v2, e2) ∧ ap_sm L xs false h1 e1 ∧ ap_sm L xs true h2 e2 ∧ ae_fr mo L xs (am_mX2 ap_b false h1 h2) (am_mX2 ap_b false e1 e2) ∧ Q v1 v2 e1 e2
/-! clauses with one way left -/
noncomputable def ap_un (k : ae_K) : List (List ae_X) → List ae_K
  | [] => [k]
  | c :: r => match c.filter (fun d => !(ae_z k (ae_neg d 1))) with
    | [] => []
    | [d] => (bif ae_z k d then [k] else ae_ask k [d]).flatMap fun k' => ap_un k' r
    | _ :: _ :: _ => ap_un k r
theorem ap_un_ok {n : Nat} {ρ : Nat → Int} : ∀ {C : List (List ae_X)} {k : ae_K}, ae_okK ρ k → k.1 = n → ap_clk n ρ C → ∃ k' ∈ ap_un k C, ae_okK ρ k' ∧ k'.1 = n
  | [], k, hK, hn, _ => ⟨k, List.mem_singleton.mpr rfl, hK, hn⟩
  | c :: r, k, hK, hn, hC => by
    have hr : ap_clk n ρ r := fun c hc => hC c (List.mem_cons_of_mem _ hc)
    obtain ⟨hw, e, he, h0⟩ := hC c List.mem_cons_self
    have hin : e ∈ c.filter (fun d => !(ae_z k (ae_neg d 1))) := by
      refine List.mem_filter.mpr ⟨he, ?_⟩
      cases hz : ae_z k (ae_neg e 1) with
      | false => rfl
      | true =>
        have := ae_z_ok hK hz
        rw [ae_neg_ev] at this
        omega
    unfold ap_un
    split
    · rename_i hq
      rw [hq] at hin
      exact absurd hin List.not_mem_nil
    · rename_i d hq
      rw [hq] at hin
      have hd := List.mem_singleton.mp hin
      subst hd
      cases hz : ae_z k e with
      | true =>
        obtain ⟨k', m, g⟩ := ap_un_ok hK hn hr
        exact ⟨k', List.mem_flatMap.mpr ⟨k, List.mem_singleton.mpr rfl, m⟩, g⟩
      | false =>
        obtain ⟨k1, m1, K1, n1⟩ := ae_ask_ok (es := [e]) hK (fun x hx => by rw [List.mem_singleton.mp hx, hn]; exact ⟨hw e he, h0⟩)
        obtain ⟨k', m, g⟩ := ap_un_ok K1 (n1.trans hn) hr
        exact ⟨k', List.mem_flatMap.mpr ⟨k1, m1, m⟩, g⟩
    · exact ap_un_ok hK hn hr
/-! fitting a meeting point -/
noncomputable def ap_sut (σ : List ae_X) : ae_T → ae_X
  | [] => (0, [])
  | t :: r => ae_add (ae_scl t.2 (σ.getD t.1 (ae_num 0))) (ap_sut σ r)
noncomputable def ap_su (σ : List ae_X) (e : ae_X) : ae_X := ae_pls (ap_sut σ e.2) e.1
noncomputable def ap_ρ (ρ : Nat → Int) (σ : List ae_X) (s : Nat) : Int := ae_ev ρ (σ.getD s (ae_num 0))
theorem ap_sut_ev (ρ : Nat → Int) (σ : List ae_X) : ∀ t : ae_T, ae_ev ρ (ap_sut σ t) = ae_et (ap_ρ ρ σ) t
  | [] => rfl
  | t :: r => by
    show ae_ev ρ (ae_add (ae_scl t.2 (σ.getD t.1 (ae_num 0))) (ap_sut σ r)) = t.2 * ap_ρ ρ σ t.1 + ae_et (ap_ρ ρ σ) r
    rw [ae_add_ev, ae_scl_ev, ap_sut_ev ρ σ r]
    rfl
theorem ap_su_ev (ρ : Nat → Int) (σ : List ae_X) (e : ae_X) : ae_ev ρ (ap_su σ e) = ae_ev (ap_ρ ρ σ) e := by
  unfold ap_su
  rw [ae_pls_ev, ap_sut_ev]
  unfold ae_ev
  omega
noncomputable def ap_vm (k : ae_K) (σ : List ae_X) (v w : ae_V) : Bool := Nat.beq v.1 w.1 && (bif Nat.blt v.1 2 then ae_wb σ.length w.2.2.2 && ae_rg k (ae_sub v.2.2 (ap_su σ w.2.2)) 0 0 else bif Nat.beq v.1 2 then Nat.beq v.2.1 w.2.1 else Nat.beq v.1 3)
theorem ap_vm_ok {k : ae_K} {ρ : Nat → Int} (hK : ae_okK ρ k) {σ : List ae_X} {v w : ae_V} {x : Value} (q : ap_vm k σ v w = true) (g : ae_ok k.1 ρ v x) : ae_ok σ.length (ap_ρ ρ σ) w x := by
  unfold ap_vm at q
  rw [Bool.and_eq_true] at q
  obtain ⟨q1, q2⟩ := q
  have q1 := Nat.eq_of_beq_eq_true q1
  obtain ⟨v1, v2, v3⟩ := v
  obtain ⟨w1, w2, w3⟩ := w
  have q1 : v1 = w1 := q1
  subst q1
  have key : ∀ {z : Int}, (ae_wb σ.length w3.2 && ae_rg k (ae_sub v3 (ap_su σ w3)) 0 0) = true → ae_dn k.1 ρ v3 z → ae_dn σ.length (ap_ρ ρ σ) w3 z := by
    intro z h d
    rw [Bool.and_eq_true] at h
    have h2 := ae_rg_ok hK h.2
    rw [ae_sub_ev, ap_su_ev, d.2] at h2
    exact ⟨ae_wb_ok h.1, by omega⟩
  match v1, g, q2 with
  | 0, g, q2 => obtain ⟨y, h1, h2⟩ := g; exact ⟨y, h1, key q2 h2⟩
  | 1, g, q2 => obtain ⟨y, h1, h2⟩ := g; exact ⟨y, h1, key q2 h2⟩
  | 2, g, q2 =>
    have q2 : Nat.beq v2 w2 = true := q2
    have := Nat.eq_of_beq_eq_true q2
    have g : x = .ref v2 := g
    show x = .ref w2
    rw [g, this]
  | 3, g, _ => exact g
  | n + 4, _, q2 => cases q2
noncomputable def ap_lm (k : ae_K) (σ : List ae_X) (lv lt : ae_L) : Bool := lt.all fun q => match ae_lg lv q.1 with
  | some a => ap_vm k σ a q.2
  | none => false
noncomputable def ap_sm2 (k : ae_K) (σ : List ae_X) : List ae_V → List ae_V → Bool
  | [], [] => true
  | a :: r, b :: t => ap_vm k σ a b && ap_sm2 k σ r t
  | _, _ => false
noncomputable def ap_fm (k : ae_K) (σ : List ae_X) : List ap_F → List ap_F → Bool
  | [], [] => true
  | f :: r, t :: u => Nat.beq f.2.1 t.2.1 && Nat.beq f.2.2.1 t.2.2.1 && Nat.ble t.1 f.1 && ap_lm k σ f.2.2.2.1 t.2.2.2.1 && ap_sm2 k σ f.2.2.2.2 t.2.2.2.2 && ap_fm k σ r u
  | _, _ => false
noncomputable def ap_om (k : ae_K) (σ : List ae_X) : Option ae_V → Option ae_V → Bool
  | none, none => true
  | some a, some b => ap_vm k σ a b
  | _, _ => false
noncomputable def ap_tm (k : ae_K) (σ : List ae_X) (a t : ap_T) : Bool := ap_fm k σ a.1 t.1 && (match t.1 with
  | [] => ap_om k σ a.2 t.2
  | _ :: _ => true)
section APC
variable {k : ae_K} {ρ : Nat → Int} {σ : List ae_X}
theorem ap_lm_ok (hK : ae_okK ρ k) {lv lt : ae_L} {lw : am_L} (q : ap_lm k σ lv lt = true) (g : ae_lr k.1 ρ lv lw) : ae_lr σ.length (ap_ρ ρ σ) lt lw := by
  intro p hp
  have h := List.all_eq_true.mp q p hp
  split at h
  · rename_i a ha
    obtain ⟨v, g1, g2⟩ := ae_lg_ok g ha
    exact ⟨v, g1, ap_vm_ok hK h g2⟩
  · cases h
theorem ap_sm2_ok (hK : ae_okK ρ k) : ∀ {a t : List ae_V} {sw : List Value}, ap_sm2 k σ a t = true → ae_sr k.1 ρ a sw → ae_sr σ.length (ap_ρ ρ σ) t sw
  | [], [], [], _, _ => trivial
  | a :: r, b :: t, v :: w, q, g => by
    unfold ap_sm2 at q
    rw [Bool.and_eq_true] at q
    exact ⟨ap_vm_ok hK q.1 g.1, ap_sm2_ok hK q.2 g.2⟩
  | [], [], _ :: _, _, g => absurd g id
  | [], _ :: _, _, q, _ => by cases q
  | _ :: _, [], _, q, _ => by cases q
  | _ :: _, _ :: _, [], _, g => absurd g id
theorem ap_fm_ok (hK : ae_okK ρ k) : ∀ {a t : List ap_F} {g : List am_Fr}, ap_fm k σ a t = true → ap_ff k.1 ρ a g → ap_ff σ.length (ap_ρ ρ σ) t g
  | [], [], [], _, _ => trivial
  | f :: r, t :: u, v :: w, q, g => by
    unfold ap_fm at q
    simp only [Bool.and_eq_true] at q
    obtain ⟨⟨⟨⟨⟨q1, q2⟩, q3⟩, q4⟩, q5⟩, q6⟩ := q
    refine ⟨⟨Nat.le_trans (Nat.le_of_ble_eq_true q3) g.1.1, (Nat.eq_of_beq_eq_true q1).symm.trans g.1.2.1, (Nat.eq_of_beq_eq_true q2).symm.trans g.1.2.2.1, ap_lm_ok hK q4 g.1.2.2.2.1, ap_sm2_ok hK q5 g.1.2.2.2.2⟩, ap_fm_ok hK q6 g.2⟩
  | [], [], _ :: _, _, g => absurd g id
  | [], _ :: _, _, q, _ => by cases q
  | _ :: _, [], _, q, _ => by cases q
  | _ :: _, _ :: _, [], _, g => absurd g id
theorem ap_tm_ok (hK : ae_okK ρ k) {a t : ap_T} {g : ap_cT} (q : ap_tm k σ a t = true) (h : ap_tt k.1 ρ a g) : ap_tt σ.length (ap_ρ ρ σ) t g := by
  unfold ap_tm at q
  rw [Bool.and_eq_true] at q
  refine ⟨ap_fm_ok hK q.1 h.1, fun e => ?_⟩
  have q2 := q.2
  rw [e] at q2
  have q2 : ap_om k σ a.2 t.2 = true := q2
  have e2 : a.1 = [] := by
    have q1 := q.1
    rw [e] at q1
    cases ha : a.1 with
    | nil => rfl
    | cons _ _ => rw [ha] at q1; cases q1
  have h2 := h.2 e2
  unfold ap_om at q2
  unfold ae_ro at h2 ⊢
  split at q2
  · rename_i h3 h4
    rw [h3] at h2
    rw [h4]
    exact h2
  · rename_i v w h3 h4
    rw [h3] at h2
    rw [h4]
    obtain ⟨x, h5, h6⟩ := h2
    exact ⟨x, h5, ap_vm_ok hK q2 h6⟩
  · cases q2
end APC
/-- the cells that a meeting point speaks of -/
noncomputable def ap_lds : List ae_M → ae_K → List ae_M → Option (ae_K × List ae_M)
  | [], k, M => some (k, M)
  | t :: r, k, M => bif !(ae_kc t.2.1) then ap_lds r k M else bif ae_nn t.2.1.1 && Nat.blt 0 t.1 && Nat.ble t.1 ae_np && Nat.blt t.2.1.1.toNat (ae_sh t.1).2.2 then (ae_ld true k M t.1 (ae_num (t.2.1.1.toNat : Int))).bind fun q => ap_lds r q.1 q.2.1 else none
theorem ap_lds_ok (hr : ae_rok = true) {L : Nat} {xs : Nat → Int32} {h : List am_E} : ∀ {ts : List ae_M} {ρ : Nat → Int} {k : ae_K} {M : List ae_M} {z : ae_K × List ae_M}, ae_okK ρ k → ae_hp true k.1 ρ L xs M h → ap_lds ts k M = some z → ∃ ρ', ae_up2 ρ k ρ' z.1 ∧ ae_hp true z.1.1 ρ' L xs z.2 h
  | [], ρ, k, M, z, hK, hH, q => by cases q; exact ⟨ρ, ⟨Nat.le_refl _, ae_ag_rf _ _, hK⟩, hH⟩
  | t :: r, ρ, k, M, z, hK, hH, q => by
    unfold ap_lds at q
    cases hkc : ae_kc t.2.1 with
    | false => rw [hkc] at q; exact ap_lds_ok hr hK hH q
    | true =>
    rw [hkc] at q
    obtain ⟨hb, q⟩ := ae_bif (show (bif _ then _ else none) = some z from q)
    simp only [Bool.and_eq_true] at hb
    obtain ⟨⟨k1, M1, a1⟩, h1, q⟩ := Option.bind_eq_some_iff.mp q
    have b1 := Nat.blt_eq.mp hb.1.1.2
    have b2 := Nat.le_of_ble_eq_true hb.1.2
    have b3 := Nat.blt_eq.mp hb.2
    obtain ⟨v, hv⟩ := ae_cell_ex (L := L) (xs := xs) hH.1 b1 b2 b3
    obtain ⟨ρ1, u1, H1, -⟩ := ae_ld_ok hr hK hH (ae_num_dn _) hv (fun _ => ⟨b2, b3⟩) h1
    obtain ⟨ρ2, u2, H2⟩ := ap_lds_ok hr u1.2.2 H1 q
    exact ⟨ρ2, u1.tr u2, H2⟩
noncomputable def ap_fr1 (t : ap_T) (i : Nat) : Option ap_F := t.1[i]?
noncomputable def ap_si (acc : List ae_X) (k : ae_K) (M : List ae_M) (t1 t2 : ap_T) (s : ap_Si) : Option ae_V := match s.1 with
  | 0 => (ae_fd M s.2.1 (ae_num (s.2.2 : Int))).bind fun m => some m.2.2.1
  | 1 => (ap_fr1 t1 s.2.1).bind fun f => ae_lg f.2.2.2.1 s.2.2
  | 2 => (ap_fr1 t2 s.2.1).bind fun f => ae_lg f.2.2.2.1 s.2.2
  | 3 => (ap_fr1 t1 s.2.1).bind fun f => f.2.2.2.2[s.2.2]?
  | 4 => (ap_fr1 t2 s.2.1).bind fun f => f.2.2.2.2[s.2.2]?
  | 5 => (match t1.1 with | [] => t1.2 | _ :: _ => none)
  | 6 => (match t2.1 with | [] => t2.2 | _ :: _ => none)
  | _ => (M.find? fun m => Nat.beq m.1 s.2.1 && ae_rg k (ae_sub m.2.1 (ae_pls (acc.getD (s.1 - 7) (ae_num 0)) (s.2.2 : Int))) 0 0).bind fun m => some m.2.2.1
/-- how many strides -/
noncomputable def ap_sdv (s : Nat) (e : ae_X) : ae_X := match s with
  | 0 => e
  | s + 1 => (e.1 / ((s + 1 : Nat) : Int), e.2.map fun t => (t.1, t.2 / ((s + 1 : Nat) : Int)))
/-- the values at the sites: 7 + a: the cell of a row at symbol a and so many -/
noncomputable def ap_ss (k : ae_K) (M : List ae_M) (t1 t2 : ap_T) : List ap_Si → List ae_X → Option (List ae_X)
  | [], acc => some acc
  | s :: r, acc => (ap_si acc k M t1 t2 (s.1 % 1000, s.2)).bind fun v => bif Nat.blt v.1 2 then ap_ss k M t1 t2 r (acc ++ [ap_sdv (s.1 / 1000) v.2.2]) else none
theorem ap_ss_pre {k : ae_K} {M : List ae_M} {t1 t2 : ap_T} : ∀ {ss : List ap_Si} {acc l : List ae_X}, ap_ss k M t1 t2 ss acc = some l → ∃ m, l = acc ++ m
  | [], acc, l, q => by cases q; exact ⟨[], (List.append_nil _).symm⟩
  | s :: r, acc, l, q => by
    obtain ⟨v, -, q⟩ := Option.bind_eq_some_iff.mp q
    obtain ⟨-, q⟩ := ae_bif q
    obtain ⟨m, rfl⟩ := ap_ss_pre (ss := r) q
    exact ⟨[ap_sdv (s.1 / 1000) v.2.2] ++ m, List.append_assoc _ _ _⟩
noncomputable def ap_s0 (R : Nat) : List ae_X := (List.range R).map ae_sym
noncomputable def ap_cm (k : ae_K) (σ : List ae_X) (C : List (List ae_X)) (c : List ae_X) : Bool := c.all (fun d => ae_wb σ.length d.2) &&
  (c.any (fun d => ae_z k (ap_su σ d)) || C.any fun c' => c'.all fun d' => (ae_ask k [d']).all fun k' => c.any fun d => ae_z k' (ap_su σ d))
noncomputable def ap_km (k : ae_K) (σ : List ae_X) (t : ae_K) : Bool := Nat.beq t.1 σ.length && t.2.1.all (fun q => Nat.blt q.1 t.1 && ae_rg k (σ.getD q.1 (ae_num 0)) q.2.1 q.2.2) && t.2.2.1.all (fun f => ae_wb σ.length f.2 && ae_z k (ap_su σ f)) && (match t.2.2.2 with | [] => true | _ :: _ => false)
noncomputable def ap_m1 (k : ae_K) (σ : List ae_X) (t m : ae_M) : Bool := Nat.beq m.1 t.1 && (bif ae_kc t.2.1 && ae_kc m.2.1 then ae_ie m.2.1.1 t.2.1.1 else ae_rg k (ae_sub m.2.1 (ap_su σ t.2.1)) 0 0) && ap_vm k σ m.2.2.1 t.2.2.1
noncomputable def ap_mm (k : ae_K) (σ : List ae_X) (M T : List ae_M) : Bool := T.all fun t => !t.2.2.2 && ae_wb σ.length t.2.1.2 && M.any (ap_m1 k σ t)
noncomputable def ap_ctl (f : List ap_F) (t : List ap_F) : Bool := match f, t with
  | [], [] => true
  | f :: _, t :: _ => Nat.beq f.2.1 t.2.1 && Nat.beq f.2.2.1 t.2.2.1
  | _, _ => false
noncomputable def ap_mt (R : Nat) (w0 : ae_X) (z : ap_St) (t : ap_Tm) : Bool :=
  bif Nat.blt 0 R && ap_ctl z.t1.1 t.st.t1.1 && ap_ctl z.t2.1 t.st.t2.1 then
    (match ae_vd false z.k z.m with
    | some M1 => (match ap_lds t.st.m z.k M1 with
      | some q => (match ap_ss q.1 q.2 z.t1 z.t2 t.si (ap_s0 R) with
        | some l => ap_km q.1 l t.st.k && ap_mm q.1 l q.2 t.st.m && ap_tm q.1 l z.t1 t.st.t1 && ap_tm q.1 l z.t2 t.st.t2 && t.st.cl.all (ap_cm q.1 l z.cl) && ae_z q.1 (ae_pls (ae_sub (ap_su l t.rk) w0) 1) && ae_z q.1 (ae_neg (ap_su l t.rk) 0)
        | none => false)
      | none => false)
    | none => false)
  else false
section APD
variable {G : List am_E → Prop} {L : Nat} {xs : Nat → Int32} {ρ : Nat → Int} {g1 g2 : ap_cT} {h1 h2 : List am_E}
theorem ap_mt_ok (hr : ae_rok = true) (hf : ae_fok = true) {R : Nat} {w0 : ae_X} {W0 : Int} {z : ap_St} {t : ap_Tm} (q : ap_mt R w0 z t = true) (S : ap_sat G L xs ρ z g1 g2 h1 h2) (hR : R ≤ z.k.1) (w1 : ae_wt z.k.1 w0.2) (w2 : ae_ev ρ w0 = W0) : ∃ ρ', ap_sat G L xs ρ' t.st g1 g2 h1 h2 ∧ 0 ≤ ae_ev ρ' t.rk ∧ ae_ev ρ' t.rk < W0 ∧ R ≤ t.st.k.1 ∧ ∀ s, s < R → ρ' s = ρ s := by
  obtain ⟨S1, S2, S3, S4, S5, S6, S7, S8, S9⟩ := S
  unfold ap_mt at q
  cases hb : Nat.blt 0 R && ap_ctl z.t1.1 t.st.t1.1 && ap_ctl z.t2.1 t.st.t2.1 with
  | false => rw [hb] at q; cases q
  | true =>
  rw [hb] at q
  have hR0 : 0 < R := by
    rw [Bool.and_eq_true, Bool.and_eq_true] at hb
    exact Nat.blt_eq.mp hb.1.1
  change (match ae_vd false z.k z.m with
    | some M1 => (match ap_lds t.st.m z.k M1 with
      | some q => (match ap_ss q.1 q.2 z.t1 z.t2 t.si (ap_s0 R) with
        | some l => ap_km q.1 l t.st.k && ap_mm q.1 l q.2 t.st.m && ap_tm q.1 l z.t1 t.st.t1 && ap_tm q.1 l z.t2 t.st.t2 && t.st.cl.all (ap_cm q.1 l z.cl) && ae_z q.1 (ae_pls (ae_sub (ap_su l t.rk) w0) 1) && ae_z q.1 (ae_neg (ap_su l t.rk) 0)
        | none => false)
      | none => false)
    | none => false) = true at q
  split at q
  · rename_i M1 hv
    obtain ⟨H1, D1⟩ := ae_vd_ok hf S1 S4 hv
    split at q
    · rename_i kq hl
      obtain ⟨ρ1, u, H2⟩ := ap_lds_ok hr S1 H1 hl
      split at q
      · rename_i l hs
        simp only [Bool.and_eq_true] at q
        obtain ⟨⟨⟨⟨⟨⟨q1, q2⟩, q3⟩, q4⟩, q5⟩, q6⟩, q7⟩ := q
        have T1 := ap_tt_ext u.1 u.2.1 S5
        have T2 := ap_tt_ext u.1 u.2.1 S6
        have K1 := u.2.2
        obtain ⟨lm, hlm⟩ := ap_ss_pre hs
        have hl0 : ∀ s, s < R → l.getD s (ae_num 0) = ae_sym s := by
          intro s hs'
          rw [hlm, List.getD_eq_getElem?_getD, List.getElem?_append_left (by unfold ap_s0; rw [List.length_map, List.length_range]; exact hs')]
          unfold ap_s0
          rw [List.getElem?_map, List.getElem?_range hs']
          rfl
        have hlen : R ≤ l.length := by
          rw [hlm, List.length_append]
          unfold ap_s0
          rw [List.length_map, List.length_range]
          omega
        generalize hσ : l = σ at q1 q2 q3 q4 q5 q6 q7 hl0 hlen
        -- the symbols' own
        unfold ap_km at q1
        simp only [Bool.and_eq_true] at q1
        obtain ⟨⟨⟨n1, n2⟩, n3⟩, n4⟩ := q1
        have n1 := Nat.eq_of_beq_eq_true n1
        have hsf : ∀ e, ae_ev ρ1 (ap_su σ e) = ae_ev (ap_ρ ρ1 σ) e := fun e => ap_su_ev ρ1 σ e
        have KT : ae_okK (ap_ρ ρ1 σ) t.st.k := by
          refine ⟨fun b hb => ?_, fun f hf' => ?_, fun d hd => ?_⟩
          · have h3 := List.all_eq_true.mp n2 b hb
            rw [Bool.and_eq_true] at h3
            have h4 := ae_rg_ok K1 h3.2
            exact ⟨Nat.blt_eq.mp h3.1, h4.1, h4.2⟩
          · have h3 := List.all_eq_true.mp n3 f hf'
            rw [Bool.and_eq_true] at h3
            have h4 := ae_z_ok K1 h3.2
            rw [hsf] at h4
            exact ⟨by rw [n1]; exact ae_wb_ok h3.1, h4⟩
          · revert hd n4
            cases t.st.k.2.2.2 with
            | nil => intro _ hd; exact absurd hd List.not_mem_nil
            | cons _ _ => intro h _; cases h
        have K0 : ae_k0 (ap_ρ ρ1 σ) L t.st.k := by
          refine ⟨⟨by rw [n1]; omega, S2.1.2⟩, ?_⟩
          show ae_ev ρ1 (σ.getD 0 (ae_num 0)) = (L : Int)
          rw [hl0 0 hR0]
          have h3 := ae_k0_up S2 u
          have h4 := (ae_sym_dn (n := kq.1.1) (ρ := ρ1) (s := 0) h3.1.1).2
          rw [h4]
          exact h3.2
        have C : ap_clk t.st.k.1 (ap_ρ ρ1 σ) t.st.cl := by
          intro c hc
          have h3 := List.all_eq_true.mp q5 c hc
          unfold ap_cm at h3
          rw [Bool.and_eq_true] at h3
          refine ⟨fun e he => by rw [n1]; exact ae_wb_ok (List.all_eq_true.mp h3.1 e he), ?_⟩
          rcases Bool.or_eq_true_iff.mp h3.2 with h4 | h4
          · obtain ⟨d, hd, h5⟩ := List.any_eq_true.mp h4
            have h6 := ae_z_ok K1 h5
            rw [hsf] at h6
            exact ⟨d, hd, h6⟩
          · obtain ⟨c', hc', h5⟩ := List.any_eq_true.mp h4
            obtain ⟨v1, e, he, v2⟩ := S3 c' hc'
            have h6 := List.all_eq_true.mp h5 e he
            have we := v1 e he
            obtain ⟨k', m', K', -⟩ := ae_ask_ok (es := [e]) (k := kq.1) K1 (fun x hx => by
              rw [List.mem_singleton.mp hx]
              exact ⟨ae_wt_le u.1 we, by rw [ae_ev_ag u.2.1 we]; exact v2⟩)
            obtain ⟨d, hd, h7⟩ := List.any_eq_true.mp (List.all_eq_true.mp h6 k' m')
            have h8 := ae_z_ok K' h7
            rw [hsf] at h8
            exact ⟨d, hd, h8⟩
        have HT : ae_hp true t.st.k.1 (ap_ρ ρ1 σ) L xs t.st.m (am_mX2 ap_b false h1 h2) := by
          have hnd : ∀ p j, ¬ ae_dy ρ M1 p j := fun p j hd => absurd (D1 p j hd).1 (by decide)
          have HE : ae_hp true t.st.k.1 (ap_ρ ρ1 σ) L xs [] (am_mX2 ap_b false h1 h2) :=
            ae_hp_ext (Nat.zero_le _) (fun s hs => absurd hs (Nat.not_lt_zero s)) (ae_hp_sub (M' := []) (m := 0) H1 hnd (fun q hq => absurd hq List.not_mem_nil))
          have HA := ae_hp_add (A := t.st.m) HE (fun m hm => ?_)
          · rw [List.append_nil] at HA; exact HA
          have h3 := List.all_eq_true.mp q2 m hm
          simp only [Bool.and_eq_true] at h3
          obtain ⟨⟨h4, h5⟩, h6⟩ := h3
          obtain ⟨m', f1, h7⟩ := List.any_eq_true.mp h6
          unfold ap_m1 at h7
          simp only [Bool.and_eq_true] at h7
          obtain ⟨⟨h8, h9⟩, h10⟩ := h7
          have f2 := Nat.eq_of_beq_eq_true h8
          obtain ⟨j, v, e1, e2, e3⟩ := H2.2.1 m' f1
          rw [f2] at e2
          refine ⟨j, v, ⟨by rw [n1]; exact ae_wb_ok h5, ?_⟩, e2, by rw [n1]; exact ap_vm_ok K1 h10 e3⟩
          cases hb : ae_kc m.2.1 && ae_kc m'.2.1 with
          | true =>
            rw [hb] at h9
            have h9 := ae_ie_ok h9
            rw [Bool.and_eq_true] at hb
            have kc : ∀ {e : ae_X}, ae_kc e = true → ∀ r, ae_ev r e = e.1 := by
              intro e he r
              unfold ae_kc at he
              unfold ae_ev
              revert he
              cases e.2 with
              | nil => intro _; exact Int.add_zero _
              | cons _ _ => intro h; cases h
            rw [kc hb.1, ← h9, ← kc hb.2 ρ1]
            exact e1.2
          | false =>
            rw [hb] at h9
            have h9 := ae_rg_ok K1 h9
            rw [ae_sub_ev, hsf, e1.2] at h9
            omega
        have h6 := ae_z_ok K1 q6
        rw [ae_pls_ev, ae_sub_ev, hsf, ae_ev_ag u.2.1 w1, w2] at h6
        have h7 := ae_z_ok K1 q7
        rw [ae_neg_ev, hsf] at h7
        refine ⟨ap_ρ ρ1 σ, ⟨KT, K0, C, HT, ?_, ?_, S7, S8, S9⟩, by omega, by omega, by rw [n1]; exact hlen, fun s hs' => ?_⟩
        · rw [n1]; exact ap_tm_ok K1 q3 T1
        · rw [n1]; exact ap_tm_ok K1 q4 T2
        · show ae_ev ρ1 (σ.getD s (ae_num 0)) = ρ s
          rw [hl0 s hs', (ae_sym_dn (n := kq.1.1) (ρ := ρ1) (s := s) (by have := u.1; omega)).2]
          exact u.2.1 s (by omega)
      · cases q
    · cases q
  · cases q
end APD
/-! the walk -/
noncomputable def ap_w (W : ap_W) (t : ap_T) : Bool := match t.1 with
  | [] => true
  | f :: _ => W.wt f.2.1 f.2.2.1
/-- no fact twice -/
noncomputable def ap_df : List ae_X → List ae_X
  | [] => []
  | f :: r => bif r.any (ae_xe f) then ap_df r else f :: ap_df r
theorem ap_df_mem : ∀ {F : List ae_X} {f : ae_X}, f ∈ ap_df F → f ∈ F
  | [], _, h => h
  | g :: r, f, h => by
    unfold ap_df at h
    cases hb : r.any (ae_xe g) with
    | true => rw [hb] at h; exact List.mem_cons_of_mem _ (ap_df_mem h)
    | false =>
      rw [hb] at h
      rcases List.mem_cons.mp h with e | h
      · rw [e]; exact List.mem_cons_self
      · exact List.mem_cons_of_mem _ (ap_df_mem h)
noncomputable def ap_kd (n : Nat) (k : ae_K) : ae_K := bif Nat.beq n k.2.2.1.length then k else (k.1, k.2.1, ap_df k.2.2.1, k.2.2.2)
theorem ap_kd_n (n : Nat) (k : ae_K) : (ap_kd n k).1 = k.1 := by
  unfold ap_kd
  cases Nat.beq n k.2.2.1.length <;> rfl
theorem ap_kd_ok {ρ : Nat → Int} {n : Nat} {k : ae_K} (h : ae_okK ρ k) : ae_okK ρ (ap_kd n k) := by
  unfold ap_kd
  cases Nat.beq n k.2.2.1.length with
  | true => exact h
  | false => exact ⟨h.1, fun f hf => h.2.1 f (ap_df_mem hf), h.2.2⟩
noncomputable def ap_stp (W : ap_W) (s : Bool) (z : ap_St) : Option (List ap_St) := match (bif s then z.t2 else z.t1).1 with
  | [] => none
  | f :: fs => ae_cat (fun k => (ap_s2 true W.p s f fs k z.m).bind fun l => some (l.map fun o => bif s then ⟨ap_kd z.k.2.2.1.length o.1, z.cl, o.2.1, z.t1, o.2.2⟩ else ⟨ap_kd z.k.2.2.1.length o.1, z.cl, o.2.1, o.2.2, z.t2⟩)) (bif W.pr f.2.1 f.2.2.1 then ap_un z.k z.cl else [z.k])
noncomputable def ap_al (f : ap_St → Bool) : Option (List ap_St) → Bool
  | some l => l.all f
  | none => false
abbrev ap_Go : Type := Bool → Bool → Bool → ap_St → Bool
noncomputable def ap_g1 (W : ap_W) (w0 : ae_X) (ih : ap_Go) : ap_Go := fun f1 f2 nh z =>
  bif !nh && W.hf f1 f2 z then ap_al (ih f1 f2 true) (W.hk z)
  else bif (!f1 && ap_w W z.t1) then
    (bif (!f2 && ap_w W z.t2) then W.tms.any (ap_mt W.r w0 z) || (match W.ov z with
      | some b => ih b.1 b.2 true z
      | none => false)
    else ap_al (ih f1 false false) (ap_stp W true z))
  else ap_al (ih false f2 false) (ap_stp W false z)
noncomputable def ap_go (W : ap_W) (w0 : ae_X) (n : Nat) : ap_Go :=
  Nat.rec (motive := fun _ => ap_Go) (fun _ _ _ _ => false) (fun _ ih => ap_g1 W w0 ih) n
section APE
variable {W : ap_W} {G : List am_E → Prop} {L : Nat} {xs : Nat → Int32} {Q : Option Value → Option Value → List am_E → List am_E → Prop}
theorem ap_clk_ext {n m : Nat} {ρ ρ' : Nat → Int} {C : List (List ae_X)} (hn : n ≤ m) (a : ae_ag n ρ ρ') (q : ap_clk n ρ C) : ap_clk m ρ' C := by
  intro c hc
  obtain ⟨h1, e, he, h2⟩ := q c hc
  exact ⟨fun e he => ae_wt_le hn (h1 e he), e, he, by rw [ae_ev_ag a (h1 e he)]; exact h2⟩
/-- a hook is right -/
noncomputable def ap_HOK (W : ap_W) (G : List am_E → Prop) (L : Nat) (xs : Nat → Int32) (Q : Option Value → Option Value → List am_E → List am_E → Prop) : Prop := ∀ z o ρ g1 g2 h1 h2, W.hk z = some o → ap_sat G L xs ρ z g1 g2 h1 h2 → ∃ z' ∈ o, ∃ ρ' g1' g2' h1' h2', ae_up2 ρ z.k ρ' z'.k ∧ ap_sat G L xs ρ' z' g1' g2' h1' h2' ∧ (ap_end W.p.mo L xs Q g1' g2' h1' h2' → ap_end W.p.mo L xs Q g1 g2 h1 h2)
theorem ap_al_ok {f : ap_St → Bool} {o : Option (List ap_St)} (q : ap_al f o = true) : ∃ l, o = some l ∧ ∀ z ∈ l, f z = true := by
  cases o with
  | none => cases q
  | some l => exact ⟨l, rfl, fun z hz => List.all_eq_true.mp q z hz⟩
theorem ap_end_1 {mo : ae_Mo} {g g' g2 : ap_cT} {h h' h2 : List am_E} (f : ae_fr mo L xs (am_mX2 ap_b false h h2) (am_mX2 ap_b false h' h2)) (m : ap_sm L xs false h h') (r : ∀ x, ap_run L xs g' h' x → ap_run L xs g h x) (q : ap_end mo L xs Q g' g2 h' h2) : ap_end mo L xs Q g g2 h h2 := by
  obtain ⟨v1, e1, v2, e2, q1, q2, q3, q4, q5, q6⟩ := q
  exact ⟨v1, e1, v2, e2, r _ q1, q2, ap_sm_tr m q3, q4, ae_fr_tr f q5, q6⟩
theorem ap_end_2 {mo : ae_Mo} {g g' g1 : ap_cT} {h h' h1 : List am_E} (f : ae_fr mo L xs (am_mX2 ap_b false h1 h) (am_mX2 ap_b false h1 h')) (m : ap_sm L xs true h h') (r : ∀ x, ap_run L xs g' h' x → ap_run L xs g h x) (q : ap_end mo L xs Q g1 g' h1 h') : ap_end mo L xs Q g1 g h1 h := by
  obtain ⟨v1, e1, v2, e2, q1, q2, q3, q4, q5, q6⟩ := q
  exact ⟨v1, e1, v2, e2, q1, r _ q2, q3, ap_sm_tr m q4, ae_fr_tr f q5, q6⟩
theorem ap_stp_ok (hr : ae_rok = true) (hf : ae_fok = true) (hL : L ≤ 3072) (hct : ∀ c ∈ W.p.cts, ae_CT c) (hG : ∀ h h', G h → ae_fr W.p.mo L xs h h' → G h') {s : Bool} {z : ap_St} {l : List ap_St} (q : ap_stp W s z = some l) {ρ : Nat → Int} {g1 g2 : ap_cT} {h1 h2 : List am_E} (S : ap_sat G L xs ρ z g1 g2 h1 h2) :
    ∃ z' ∈ l, ∃ ρ' g1' g2' h1' h2', ae_up2 ρ z.k ρ' z'.k ∧ ap_sat G L xs ρ' z' g1' g2' h1' h2' ∧ (ap_end W.p.mo L xs Q g1' g2' h1' h2' → ap_end W.p.mo L xs Q g1 g2 h1 h2) := by
  obtain ⟨S1, S2, S3, S4, S5, S6, S7, S8, S9⟩ := S
  unfold ap_stp at q
  split at q
  · cases q
  · rename_i f fs hfs
    have hks : ∃ k ∈ (bif W.pr f.2.1 f.2.2.1 then ap_un z.k z.cl else [z.k]), ae_okK ρ k ∧ k.1 = z.k.1 := by
      cases W.pr f.2.1 f.2.2.1 with
      | true => exact ap_un_ok S1 rfl S3
      | false => exact ⟨z.k, List.mem_singleton.mpr rfl, S1, rfl⟩
    obtain ⟨k, mk, K, kn⟩ := hks
    obtain ⟨x, q1, q2⟩ := ae_cat_ok q mk
    obtain ⟨o, q3, q4⟩ := Option.bind_eq_some_iff.mp q1
    cases q4
    have K0 : ae_k0 ρ L k := ⟨⟨by rw [kn]; exact S2.1.1, S2.1.2⟩, S2.2⟩
    have H : ae_hp true k.1 ρ L xs z.m (am_mX2 ap_b false h1 h2) := by rw [kn]; exact S4
    cases s with
    | false =>
      have hfs : z.t1.1 = f :: fs := hfs
      obtain ⟨T1, T1b⟩ := S5
      rw [hfs] at T1
      obtain ⟨gf, gv⟩ := g1
      cases gf with
      | nil => exact absurd T1 id
      | cons g gs =>
        have T1 : ap_f1 z.k.1 ρ f g ∧ ap_ff z.k.1 ρ fs gs := T1
        obtain ⟨o1, m1, ρ', g', ho', u, w1, w2, w3, w4, w5, w6, w7⟩ := ap_s2_ok hr hf hL hct q3 K K0 H (by rw [kn]; exact T1.1) (by rw [kn]; exact T1.2) S7 S8.1.1
        have u' : ae_up2 ρ z.k ρ' o1.1 := ⟨by rw [← kn]; exact u.1, by rw [← kn]; exact u.2.1, u.2.2⟩
        have un : (ap_kd z.k.2.2.1.length o1.1).1 = o1.1.1 := ap_kd_n _ _
        refine ⟨⟨ap_kd z.k.2.2.1.length o1.1, z.cl, o1.2.1, o1.2.2, z.t2⟩, q2 _ (List.mem_map.mpr ⟨o1, m1, rfl⟩), ρ', g', g2, ho', h2, ⟨by rw [show (ap_kd z.k.2.2.1.length o1.1).1 = o1.1.1 from un]; exact u'.1, u'.2.1, ap_kd_ok u'.2.2⟩, ⟨ap_kd_ok u'.2.2, ⟨⟨by rw [un]; exact w1.1.1, w1.1.2⟩, w1.2⟩, by rw [un]; exact ap_clk_ext u'.1 u'.2.1 S3, by rw [un]; exact w2, by rw [un]; exact w3, by rw [un]; exact ap_tt_ext u'.1 u'.2.1 S6, w6, S8, hG _ _ S9 w4⟩, fun e => ap_end_1 w4 w5 (fun x hx => w7 x hx) e⟩
    | true =>
      have hfs : z.t2.1 = f :: fs := hfs
      obtain ⟨T2, T2b⟩ := S6
      rw [hfs] at T2
      obtain ⟨gf, gv⟩ := g2
      cases gf with
      | nil => exact absurd T2 id
      | cons g gs =>
        have T2 : ap_f1 z.k.1 ρ f g ∧ ap_ff z.k.1 ρ fs gs := T2
        have H' : ae_hp true k.1 ρ L xs z.m (am_mX2 ap_b true h2 h1) := by rw [ap_mX_not]; exact H
        obtain ⟨o1, m1, ρ', g', ho', u, w1, w2, w3, w4, w5, w6, w7⟩ := ap_s2_ok hr hf hL hct q3 K K0 H' (by rw [kn]; exact T2.1) (by rw [kn]; exact T2.2) S8 S7.1.1
        have u' : ae_up2 ρ z.k ρ' o1.1 := ⟨by rw [← kn]; exact u.1, by rw [← kn]; exact u.2.1, u.2.2⟩
        rw [ap_mX_not] at w2
        rw [ap_mX_not ap_b true, ap_mX_not ap_b true] at w4
        have un : (ap_kd z.k.2.2.1.length o1.1).1 = o1.1.1 := ap_kd_n _ _
        refine ⟨⟨ap_kd z.k.2.2.1.length o1.1, z.cl, o1.2.1, z.t1, o1.2.2⟩, q2 _ (List.mem_map.mpr ⟨o1, m1, rfl⟩), ρ', g1, g', h1, ho', ⟨by rw [show (ap_kd z.k.2.2.1.length o1.1).1 = o1.1.1 from un]; exact u'.1, u'.2.1, ap_kd_ok u'.2.2⟩, ⟨ap_kd_ok u'.2.2, ⟨⟨by rw [un]; exact w1.1.1, w1.1.2⟩, w1.2⟩, by rw [un]; exact ap_clk_ext u'.1 u'.2.1 S3, by rw [un]; exact w2, by rw [un]; exact ap_tt_ext u'.1 u'.2.1 S5, by rw [un]; exact w3, S7, w6, hG _ _ S9 w4⟩, fun e => ap_end_2 w4 w5 (fun x hx => w7 x hx) e⟩
theorem ap_go_ok (hr : ae_rok = true) (hf : ae_fok = true) (hL : L ≤ 3072) (hct : ∀ c ∈ W.p.cts, ae_CT c) (hG : ∀ h h', G h → ae_fr W.p.mo L xs h h' → G h') (hH : ap_HOK W G L xs Q) {w0 : ae_X} {W0 : Int}
    {r0 : Nat → Int} (IH : ∀ t ∈ W.tms, ∀ ρ g1 g2 h1 h2, ap_sat G L xs ρ t.st g1 g2 h1 h2 → W.r ≤ t.st.k.1 → (∀ s, s < W.r → ρ s = r0 s) → 0 ≤ ae_ev ρ t.rk → ae_ev ρ t.rk < W0 → ap_end W.p.mo L xs Q g1 g2 h1 h2) :
    ∀ (n : Nat) (f1 f2 nh : Bool) (z : ap_St), ap_go W w0 n f1 f2 nh z = true → ∀ ρ g1 g2 h1 h2, ap_sat G L xs ρ z g1 g2 h1 h2 → W.r ≤ z.k.1 → (∀ s, s < W.r → ρ s = r0 s) → ae_wt z.k.1 w0.2 → ae_ev ρ w0 = W0 → ap_end W.p.mo L xs Q g1 g2 h1 h2 := by
  intro n
  induction n with
  | zero => intro f1 f2 nh z q; cases q
  | succ n ih =>
    intro f1 f2 nh z q ρ g1 g2 h1 h2 S s1 s2 w1 w2
    have q : ap_g1 W w0 (ap_go W w0 n) f1 f2 nh z = true := q
    have on : ∀ {a b c : Bool} {l : List ap_St}, (∀ z ∈ l, ap_go W w0 n a b c z = true) → (∃ z' ∈ l, ∃ ρ' g1' g2' h1' h2', ae_up2 ρ z.k ρ' z'.k ∧ ap_sat G L xs ρ' z' g1' g2' h1' h2' ∧ (ap_end W.p.mo L xs Q g1' g2' h1' h2' → ap_end W.p.mo L xs Q g1 g2 h1 h2)) → ap_end W.p.mo L xs Q g1 g2 h1 h2 := by
      intro a b c l hl ⟨z', m, ρ', g1', g2', h1', h2', u, S', fin⟩
      exact fin (ih a b c z' (hl z' m) ρ' g1' g2' h1' h2' S' (Nat.le_trans s1 u.1) (fun s hs => (u.2.1 s (by omega)).trans (s2 s hs)) (ae_wt_le u.1 w1) (by rw [ae_ev_ag u.2.1 w1]; exact w2))
    unfold ap_g1 at q
    cases hA : (!nh && W.hf f1 f2 z) with
    | true =>
      rw [hA] at q
      obtain ⟨l, e, q⟩ := ap_al_ok q
      exact on q (hH z l ρ g1 g2 h1 h2 e S)
    | false =>
      rw [hA] at q
      cases hB : (!f1 && ap_w W z.t1) with
      | false =>
        rw [hB] at q
        obtain ⟨l, e, q⟩ := ap_al_ok q
        exact on q (ap_stp_ok hr hf hL hct hG e S)
      | true =>
        rw [hB] at q
        cases hC : (!f2 && ap_w W z.t2) with
        | false =>
          rw [hC] at q
          obtain ⟨l, e, q⟩ := ap_al_ok q
          exact on q (ap_stp_ok hr hf hL hct hG e S)
        | true =>
          rw [hC] at q
          rcases Bool.or_eq_true_iff.mp q with q | q
          · obtain ⟨t, ht, q⟩ := List.any_eq_true.mp q
            obtain ⟨ρ', S', r1, r2, r3, r4⟩ := ap_mt_ok hr hf q S s1 w1 w2
            exact IH t ht ρ' g1 g2 h1 h2 S' r3 (fun s hs => (r4 s hs).trans (s2 s hs)) r1 r2
          · split at q
            · exact ih _ _ _ z q ρ g1 g2 h1 h2 S s1 s2 w1 w2
            · cases q
/-- all meeting points at once: each leads to others of less rank, or is an end; which thread may go on from it at first -/
noncomputable def ap_chk (W : ap_W) (n : Nat) (f1 f2 : Bool) (t : ap_Tm) : Bool := ae_wb t.st.k.1 t.rk.2 && ap_go W t.rk n f1 f2 false t.st
/-- what is to be shown at a meeting point -/
noncomputable def ap_ok (W : ap_W) (G : List am_E → Prop) (L : Nat) (xs : Nat → Int32) (Q : Option Value → Option Value → List am_E → List am_E → Prop) (r0 : Nat → Int) (t : ap_Tm) : Prop := ∀ ρ g1 g2 h1 h2, ap_sat G L xs ρ t.st g1 g2 h1 h2 → W.r ≤ t.st.k.1 → (∀ s, s < W.r → ρ s = r0 s) → ap_end W.p.mo L xs Q g1 g2 h1 h2
theorem ap_all (hr : ae_rok = true) (hf : ae_fok = true) (hL : L ≤ 3072) (hct : ∀ c ∈ W.p.cts, ae_CT c) (hG : ∀ h h', G h → ae_fr W.p.mo L xs h h' → G h') (hH : ap_HOK W G L xs Q) {r0 : Nat → Int}
    (hT : ∀ t ∈ W.tms, (∃ n f1 f2, ap_chk W n f1 f2 t = true) ∨ ap_ok W G L xs Q r0 t) : ∀ t ∈ W.tms, ap_ok W G L xs Q r0 t := by
  have key : ∀ (N : Nat) (t : ap_Tm), t ∈ W.tms → ∀ ρ g1 g2 h1 h2, ap_sat G L xs ρ t.st g1 g2 h1 h2 → W.r ≤ t.st.k.1 → (∀ s, s < W.r → ρ s = r0 s) → ae_ev ρ t.rk < (N : Int) → ap_end W.p.mo L xs Q g1 g2 h1 h2 := by
    intro N
    induction N with
    | zero =>
      intro t ht ρ g1 g2 h1 h2 S s1 s2 hN
      rcases hT t ht with ⟨n, f1, f2, q⟩ | q
      · unfold ap_chk at q
        rw [Bool.and_eq_true] at q
        exact ap_go_ok hr hf hL hct hG hH (W0 := ae_ev ρ t.rk) (r0 := r0) (fun t' _ ρ' _ _ _ _ _ _ _ r1 r2 => by omega) n f1 f2 false t.st q.2 ρ g1 g2 h1 h2 S s1 s2 (ae_wb_ok q.1) rfl
      · exact q ρ g1 g2 h1 h2 S s1 s2
    | succ N ih =>
      intro t ht ρ g1 g2 h1 h2 S s1 s2 hN
      rcases hT t ht with ⟨n, f1, f2, q⟩ | q
      · unfold ap_chk at q
        rw [Bool.and_eq_true] at q
        exact ap_go_ok hr hf hL hct hG hH (W0 := ae_ev ρ t.rk) (r0 := r0) (fun t' ht' ρ' g1' g2' h1' h2' S' s1' s2' r1 r2 => ih t' ht' ρ' g1' g2' h1' h2' S' s1' s2' (by omega)) n f1 f2 false t.st q.2 ρ g1 g2 h1 h2 S s1 s2 (ae_wb_ok q.1) rfl
      · exact q ρ g1 g2 h1 h2 S s1 s2
  exact fun t ht ρ g1 g2 h1 h2 S s1 s2 => key ((ae_ev ρ t.rk).toNat + 1) t ht ρ g1 g2 h1 h2 S s1 s2 (by omega)
end APE

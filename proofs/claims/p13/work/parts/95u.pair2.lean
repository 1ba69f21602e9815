/-! Both threads, with ties: what is known now, what was known where the walk began, what was written since -/
abbrev ab_St : Type := ae_K × List ae_M × List ae_M × ae_Mo × List ab_Ti × ap_T × ap_T
abbrev ab_St.k (z : ab_St) : ae_K := z.1
abbrev ab_St.m (z : ab_St) : List ae_M := z.2.1
abbrev ab_St.o (z : ab_St) : List ae_M := z.2.2.1
abbrev ab_St.w (z : ab_St) : ae_Mo := z.2.2.2.1
abbrev ab_St.T (z : ab_St) : List ab_Ti := z.2.2.2.2.1
abbrev ab_St.t1 (z : ab_St) : ap_T := z.2.2.2.2.2.1
abbrev ab_St.t2 (z : ab_St) : ap_T := z.2.2.2.2.2.2
abbrev ab_Tm : Type := ab_St × List ap_Si × ae_X
abbrev ab_Tm.st (t : ab_Tm) : ab_St := t.1
abbrev ab_Tm.si (t : ab_Tm) : List ap_Si := t.2.1
abbrev ab_Tm.rk (t : ab_Tm) : ae_X := t.2.2
/-- how to walk: contracts, splits and what plain steps write; what is written in all; where a thread waits; where something is known of both at once; the meeting points; who goes on where none fits; how many symbols stay -/
abbrev ab_W : Type := ap_P × ae_Mo × (Nat → Nat → Bool) × (Bool → Bool → ab_St → Bool) × (ab_St → Option (List ab_St)) × List ab_Tm × (ab_St → Option (Bool × Bool)) × Nat
abbrev ab_W.p (W : ab_W) : ap_P := W.1
abbrev ab_W.mo (W : ab_W) : ae_Mo := W.2.1
abbrev ab_W.wt (W : ab_W) : Nat → Nat → Bool := W.2.2.1
abbrev ab_W.hf (W : ab_W) : Bool → Bool → ab_St → Bool := W.2.2.2.1
abbrev ab_W.hk (W : ab_W) : ab_St → Option (List ab_St) := W.2.2.2.2.1
abbrev ab_W.tms (W : ab_W) : List ab_Tm := W.2.2.2.2.2.1
abbrev ab_W.ov (W : ab_W) : ab_St → Option (Bool × Bool) := W.2.2.2.2.2.2.1
abbrev ab_W.r (W : ab_W) : Nat := W.2.2.2.2.2.2.2
noncomputable def ab_old (n : Nat) (ρ : Nat → Int) (L : Nat) (xs : Nat → Int32) (o : List ae_M) (w : ae_Mo) (T : List ab_Ti) (h : List am_E) : Prop := ∃ h0, ab_RI T (ab_cv L xs h0) ∧ ae_fr w L xs h0 h ∧ ∀ m ∈ o, ae_eo n ρ L xs h0 m
noncomputable def ab_sat (G : List am_E → Prop) (L : Nat) (xs : Nat → Int32) (ρ : Nat → Int) (z : ab_St) (g1 g2 : ap_cT) (h1 h2 : List am_E) : Prop :=
  ae_okK ρ z.k ∧ ae_k0 ρ L z.k ∧ ae_hp false z.k.1 ρ L xs z.m (am_mX2 ap_b false h1 h2) ∧ ap_tt z.k.1 ρ z.t1 g1 ∧ ap_tt z.k.1 ρ z.t2 g2 ∧ ap_hs L xs false h1 ∧ ap_hs L xs true h2 ∧ G (am_mX2 ap_b false h1 h2) ∧ ab_old z.k.1 ρ L xs z.o z.w z.T (am_mX2 ap_b false h1 h2)
theorem ab_old_ext {n m : Nat} {ρ ρ' : Nat → Int} {L : Nat} {xs : Nat → Int32} {o : List ae_M} {w : ae_Mo} {T : List ab_Ti} {h : List am_E} (hn : n ≤ m) (a : ae_ag n ρ ρ') (q : ab_old n ρ L xs o w T h) : ab_old m ρ' L xs o w T h := by
  obtain ⟨h0, q1, q2, q3⟩ := q
  exact ⟨h0, q1, q2, fun e he => ae_eo_ext hn a (q3 e he)⟩
/-- the cells that a meeting point speaks of -/
noncomputable def ab_lds (T : List ab_Ti) (w : ae_Mo) (l : List ae_M) (k : ae_K) (M O : List ae_M) : Option (ae_K × List ae_M × List ae_M) :=
  List.rec (motive := fun _ => ae_K → List ae_M → List ae_M → Option (ae_K × List ae_M × List ae_M)) (fun k M O => some (k, M, O))
    (fun t _ ih k M O => bif !(ae_kc t.2.1) then ih k M O else bif ae_nn t.2.1.1 && Nat.blt 0 t.1 && Nat.ble t.1 ae_np && Nat.blt t.2.1.1.toNat (ae_sh t.1).2.2 then (match ab_ld T w k M O t.1 (ae_num (t.2.1.1.toNat : Int)) with
      | some (k1, M1, O1) => ih k1 M1 O1
      | none => none) else none) l k M O
theorem ab_lds_ok (hr : ae_rok = true) {L : Nat} {xs : Nat → Int32} {h0 h : List am_E} {w : ae_Mo} {T : List ab_Ti} (hT : ab_RI T (ab_cv L xs h0)) (hF : ae_fr w L xs h0 h) : ∀ {ts : List ae_M} {ρ : Nat → Int} {k : ae_K} {M O : List ae_M} {z : ae_K × List ae_M × List ae_M}, ae_okK ρ k → ae_hp false k.1 ρ L xs M h → (∀ m ∈ O, ae_eo k.1 ρ L xs h0 m) → ab_lds T w ts k M O = some z → ∃ ρ', ae_up2 ρ k ρ' z.1 ∧ ae_hp false z.1.1 ρ' L xs z.2.1 h ∧ ∀ m ∈ z.2.2, ae_eo z.1.1 ρ' L xs h0 m
  | [], ρ, k, M, O, z, hK, hH, hO, q => by cases q; exact ⟨ρ, ⟨Nat.le_refl _, ae_ag_rf _ _, hK⟩, hH, hO⟩
  | t :: r, ρ, k, M, O, z, hK, hH, hO, q => by
    have q : (bif !(ae_kc t.2.1) then ab_lds T w r k M O else bif ae_nn t.2.1.1 && Nat.blt 0 t.1 && Nat.ble t.1 ae_np && Nat.blt t.2.1.1.toNat (ae_sh t.1).2.2 then (match ab_ld T w k M O t.1 (ae_num (t.2.1.1.toNat : Int)) with
      | some (k1, M1, O1) => ab_lds T w r k1 M1 O1
      | none => none) else none) = some z := q
    cases hkc : ae_kc t.2.1 with
    | false => rw [hkc] at q; exact ab_lds_ok hr hT hF hK hH hO q
    | true =>
    rw [hkc] at q
    obtain ⟨hb, q⟩ := ae_bif (show (bif _ then _ else none) = some z from q)
    simp only [Bool.and_eq_true] at hb
    split at q
    · rename_i k1 M1 O1' h1
      obtain ⟨ρ1, u1, H1, O1⟩ := ab_ld_ok hr hK hH hT hF hO (ae_num_dn _) (Nat.blt_eq.mp hb.1.1.2) (Nat.le_of_ble_eq_true hb.1.2) (Nat.blt_eq.mp hb.2) h1
      obtain ⟨ρ2, u2, H2, O2⟩ := ab_lds_ok hr hT hF u1.2.2 H1 O1 q
      exact ⟨ρ2, u1.tr u2, H2, O2⟩
    · cases q
noncomputable def ab_nl {α : Type} (l : List α) : Bool := match l with
  | [] => true
  | _ :: _ => false
theorem ab_nl_ok {α : Type} {l : List α} (q : ab_nl l = true) : l = [] := by
  cases l with
  | nil => rfl
  | cons _ _ => cases q
/-- entries that keep their invariants are as any other; those that break them stay so -/
noncomputable def ab_vm (k : ae_K) (M : List ae_M) (m : ae_M) : Bool := ae_oi k m.1 m.2.1 m.2.2.1 && ae_vc k M m.1 m.2.1
noncomputable def ab_vn (k : ae_K) (M : List ae_M) (m : ae_M) : ae_M := (m.1, m.2.1, m.2.2.1, m.2.2.2 && !(ab_vm k M m))
noncomputable def ab_vp (k : ae_K) (M : List ae_M) : List ae_M := M.map (ab_vn k M)
theorem ab_vp_ok (hf : ae_fok = true) {ex : Bool} {ρ : Nat → Int} {k : ae_K} {L : Nat} {xs : Nat → Int32} {M : List ae_M} {h : List am_E} (hK : ae_okK ρ k) (hH : ae_hp ex k.1 ρ L xs M h) : ae_hp ex k.1 ρ L xs (ab_vp k M) h := by
  have hdy : ∀ m ∈ M, m.2.2.2 = true → ab_vm k M m = false → ∀ j : Nat, ae_ev ρ m.2.1 = (j : Int) → ae_dy ρ (ab_vp k M) m.1 j := by
    intro m m1 m2 m3 j m4
    exact ⟨ab_vn k M m, List.mem_map.mpr ⟨m, m1, rfl⟩, by show (m.2.2.2 && !(ab_vm k M m)) = true; rw [m2, m3]; rfl, rfl, m4⟩
  refine ⟨hH.1, fun m hm => ?_, fun p j v hp hc => ?_, fun f hfm i hi => ?_⟩
  · obtain ⟨m', hm', rfl⟩ := List.mem_map.mp hm
    exact hH.2.1 m' hm'
  · rcases hH.2.2.1 p j v hp hc with g | ⟨m, m1, m2, m3, m4⟩ | g
    · exact Or.inl g
    · cases h1 : ab_vm k M m with
      | false =>
        have := hdy m m1 m2 h1 j m4
        rw [m3] at this
        exact Or.inr (Or.inl this)
      | true =>
        unfold ab_vm at h1
        rw [Bool.and_eq_true] at h1
        obtain ⟨i, w, g1, g2, g3⟩ := hH.2.1 m m1
        have hij : i = j := by have := g1.2; rw [m4] at this; omega
        subst hij
        rw [m3, hc] at g2
        cases g2
        rw [← m3]
        exact Or.inl (ae_oi_ok hK m4 g3 h1.1)
    · exact Or.inr (Or.inr g)
  · rcases hH.2.2.2 f hfm i hi with g | ⟨o, ho, m, m1, m2, m3, m4⟩ | g
    · exact Or.inl g
    · cases h1 : ab_vm k M m with
      | false =>
        have := hdy m m1 m2 h1 _ m4
        rw [m3] at this
        exact Or.inr (Or.inl ⟨o, ho, this⟩)
      | true =>
        unfold ab_vm at h1
        rw [Bool.and_eq_true] at h1
        have h2 := List.all_eq_true.mp h1.2 f (ae_ffe_mem hK hfm m3.symm ho hi m4)
        rw [m3, Nat.beq_refl] at h2
        have h3 := List.all_eq_true.mp (show (ae_of f.2.2.2.2.2).all (ae_vo k M f.1 m.2.1 f) = true from h2) o ho
        unfold ae_vo at h3
        rw [Bool.or_eq_true] at h3
        obtain ⟨i0, w, g1, g2, g3⟩ := hH.2.1 m m1
        have hi0 : (i0 : Int) = ((f.2.1 + f.2.2.1 * i + o : Nat) : Int) := by rw [← m4, g1.2]
        rw [hi0] at g1
        rcases h3 with h3 | h3
        · exact absurd rfl (ae_cn_ok hK m4 h3 i hi)
        · split at h3
          · rename_i b hbb
            obtain ⟨f1, f2, f3, f4⟩ := ae_fok_at hf hfm
            obtain ⟨i', q1, q2, q3⟩ := ae_ci_ok hK f1 g1 hbb
            have hii : i' = i := by
              have h5 : f.2.2.1 * i' = f.2.2.1 * i := by omega
              exact Nat.eq_of_mul_eq_mul_left f1 h5
            subst hii
            obtain ⟨l, hl, h4⟩ := List.any_eq_true.mp h3
            unfold ae_vl at h4
            split at h4
            · rename_i w hw
              obtain ⟨z1, -⟩ := ae_lx_ok hK hH q3 hw
              have h5 := ae_z_ok hK h4
              rw [ae_pls_ev, z1.2] at h5
              exact Or.inl ⟨l, hl, by omega⟩
            · cases h4
          · cases h3
    · exact Or.inr (Or.inr g)
/-- nothing breaks its invariant: the entries are the same term -/
theorem ai_vp_id {k : ae_K} {M : List ae_M} (h : ai_all (fun m => !m.2.2.2) M = true) : ab_vp k M = M := by
  rw [ai_all_e] at h
  have e : M.map (ab_vn k M) = M.map id := List.map_congr_left fun m hm => by
    have h1 := List.all_eq_true.mp h m hm
    obtain ⟨p, e, v, d⟩ := m
    have h1 : (!d) = true := h1
    cases d with
    | true => cases h1
    | false => rfl
  unfold ab_vp
  rw [e, List.map_id]
noncomputable def ai_vq (k : ae_K) (M : List ae_M) (κ : List ae_M → Bool) : Bool := bif ai_all (fun m => !m.2.2.2) M then κ M else κ (ab_vp k M)
theorem ai_vq_e (k : ae_K) (M : List ae_M) (κ : List ae_M → Bool) : ai_vq k M κ = κ (ab_vp k M) := by
  unfold ai_vq
  cases h : ai_all (fun m => !m.2.2.2) M with
  | false => rfl
  | true => rw [ai_vp_id h]; rfl
noncomputable def ab_mm (k : ae_K) (σ : List ae_X) (M T : List ae_M) : Bool := (T.all fun t => ae_wb σ.length t.2.1.2 && M.any (ap_m1 k σ t)) && M.all fun m => !m.2.2.2 || T.any fun t => t.2.2.2 && ap_m1 k σ t m
/-- numbers that are told on both sides are the same -/
noncomputable def ab_qk (lv : ae_L) (q : Nat × ae_V) : Bool := bif ae_kc q.2.2.2 then (match ae_lg lv q.1 with
  | some v => bif ae_kc v.2.2 then ae_ie v.2.2.1 q.2.2.2.1 else true
  | none => true) else true
/-- frames at the same places -/
noncomputable def ab_ctl (l m : List ap_F) : Bool := List.rec (motive := fun _ => List ap_F → Bool) (fun m => List.rec (motive := fun _ => Bool) true (fun _ _ _ => false) m) (fun f _ ih m => List.rec (motive := fun _ => Bool) false (fun t s _ => bif Nat.beq f.2.1 t.2.1 then (bif Nat.beq f.2.2.1 t.2.2.1 then (bif ih s then ai_all (ab_qk f.2.2.2.1) t.2.2.2.1 else false) else false) else false) m) l m
/-! arrivals: what is the same as it stands is looked at first -/
noncomputable def aw_all {α : Type} (f : α → Bool) (l : List α) : Bool := List.rec (motive := fun _ => Bool) true (fun h _ r => Bool.rec (motive := fun _ => Bool) false r (f h)) l
theorem aw_all_eq {α : Type} (f : α → Bool) : ∀ l : List α, aw_all f l = l.all f
  | [] => rfl
  | h :: r => by
    rw [List.all_cons, ← aw_all_eq f r]
    show Bool.rec (motive := fun _ => Bool) false (aw_all f r) (f h) = _
    cases f h <;> rfl
theorem aw_all_mem {α : Type} {f : α → Bool} {l : List α} (q : aw_all f l = true) : ∀ x ∈ l, f x = true := by
  rw [aw_all_eq] at q
  exact fun x hx => List.all_eq_true.mp q x hx
theorem aw_bif {b c : Bool} (h : (bif b then c else false) = true) : b = true ∧ c = true := by
  cases b with
  | true => exact ⟨rfl, h⟩
  | false => cases h
noncomputable def aw_at {α : Type} (l : List α) (i : Nat) : Option α := List.rec (motive := fun _ => Nat → Option α) (fun _ => none) (fun x _ ih i => Nat.rec (motive := fun _ => Option α) (some x) (fun i _ => ih i) i) l i
theorem aw_at_eq {α : Type} : ∀ (l : List α) (i : Nat), aw_at l i = l[i]?
  | [], _ => rfl
  | _ :: _, 0 => rfl
  | x :: r, i + 1 => by
    rw [List.getElem?_cons_succ, ← aw_at_eq r i]
    rfl
noncomputable def aw_nth (σ : List ae_X) (s : Nat) : ae_X := List.rec (motive := fun _ => Nat → ae_X) (fun _ => ae_num 0) (fun x _ ih s => Nat.rec (motive := fun _ => ae_X) x (fun s _ => ih s) s) σ s
theorem aw_nth_eq : ∀ (σ : List ae_X) (s : Nat), aw_nth σ s = σ.getD s (ae_num 0)
  | [], _ => rfl
  | _ :: _, 0 => rfl
  | x :: r, s + 1 => by
    rw [List.getD_cons_succ, ← aw_nth_eq r s]
    rfl
noncomputable def aw_rv (l a : List ae_X) : List ae_X := List.rec (motive := fun _ => List ae_X → List ae_X) (fun a => a) (fun x _ ih a => ih (x :: a)) l a
theorem aw_rv_eq : ∀ (l a : List ae_X), aw_rv l a = l.reverse ++ a
  | [], _ => rfl
  | x :: r, a => by
    show aw_rv r (x :: a) = _
    rw [aw_rv_eq r, List.reverse_cons, List.append_assoc]
    rfl
noncomputable def aw_sut (σ : List ae_X) (l : ae_T) : ae_X := List.rec (motive := fun _ => ae_X) (0, []) (fun t _ r => ae_add (ae_scl t.2 (aw_nth σ t.1)) r) l
theorem aw_sut_eq (σ : List ae_X) : ∀ l : ae_T, aw_sut σ l = ap_sut σ l
  | [] => rfl
  | t :: r => by
    show ae_add (ae_scl t.2 (aw_nth σ t.1)) (aw_sut σ r) = ae_add (ae_scl t.2 (σ.getD t.1 (ae_num 0))) (ap_sut σ r)
    rw [aw_nth_eq, aw_sut_eq σ r]
noncomputable def aw_su0 (σ : List ae_X) (c : Int) (l : ae_T) : ae_X := ae_pls (aw_sut σ l) c
theorem aw_su0_eq (σ : List ae_X) (c : Int) (l : ae_T) : aw_su0 σ c l = ap_su σ (c, l) := by
  unfold aw_su0
  rw [aw_sut_eq]
  rfl
noncomputable def aw_su1 (σ : List ae_X) (c : Int) (s : Nat) (x : Int) (r : ae_T) : ae_X := match r with
  | [] => bif ae_ie x 1 then ae_pls (aw_nth σ s) c else aw_su0 σ c [(s, x)]
  | t :: r => aw_su0 σ c ((s, x) :: t :: r)
noncomputable def aw_su (σ : List ae_X) (e : ae_X) : ae_X := match e with
  | (c, l) => (match l with
    | [] => (c, [])
    | t :: r => (match t with
      | (s, x) => aw_su1 σ c s x r))
theorem aw_su_ev (ρ : Nat → Int) (σ : List ae_X) (e : ae_X) : ae_ev ρ (aw_su σ e) = ae_ev (ap_ρ ρ σ) e := by
  obtain ⟨c, l⟩ := e
  cases l with
  | nil => rfl
  | cons t r =>
    obtain ⟨s, x⟩ := t
    cases r with
    | nil =>
      show ae_ev ρ (bif ae_ie x 1 then ae_pls (aw_nth σ s) c else aw_su0 σ c [(s, x)]) = _
      cases h : ae_ie x 1 with
      | false =>
        show ae_ev ρ (aw_su0 σ c [(s, x)]) = _
        rw [aw_su0_eq]
        exact ap_su_ev ρ σ _
      | true =>
        have hx : x = 1 := ae_ie_ok h
        subst hx
        show ae_ev ρ (ae_pls (aw_nth σ s) c) = c + (1 * ae_ev ρ (σ.getD s (ae_num 0)) + 0)
        rw [ae_pls_ev, aw_nth_eq]
        omega
    | cons u r =>
      show ae_ev ρ (aw_su0 σ c ((s, x) :: u :: r)) = _
      rw [aw_su0_eq]
      exact ap_su_ev ρ σ _
noncomputable def aw_eq (k : ae_K) (a b : ae_X) : Bool := Bool.rec (motive := fun _ => Bool) (ae_rg k (ae_sub a b) 0 0) true (ae_xe a b)
theorem aw_eq_ok {k : ae_K} {ρ : Nat → Int} (hK : ae_okK ρ k) {a b : ae_X} (q : aw_eq k a b = true) : ae_ev ρ a = ae_ev ρ b := by
  unfold aw_eq at q
  cases h : ae_xe a b with
  | true => rw [ae_xe_ok h]
  | false =>
    rw [h] at q
    have q : ae_rg k (ae_sub a b) 0 0 = true := q
    have h2 := ae_rg_ok hK q
    rw [ae_sub_ev] at h2
    omega
/-- a value as the meeting point has it -/
noncomputable def aw_vq (n : Nat) (k : ae_K) (σ : List ae_X) (v w : ae_V) : Bool := match w with
  | (w1, w2, w3) => (match v with
    | (v1, v2, v3) => bif Nat.beq v1 w1 then (bif Nat.blt v1 2 then (bif ae_wb n w3.2 then aw_eq k v3 (aw_su σ w3) else false) else bif Nat.beq v1 2 then Nat.beq v2 w2 else Nat.beq v1 3) else false)
theorem aw_vq_ok {n : Nat} {k : ae_K} {ρ : Nat → Int} (hK : ae_okK ρ k) {σ : List ae_X} {v w : ae_V} {x : Value} (q : aw_vq n k σ v w = true) (g : ae_ok k.1 ρ v x) : ae_ok n (ap_ρ ρ σ) w x := by
  obtain ⟨v1, v2, v3⟩ := v
  obtain ⟨w1, w2, w3⟩ := w
  obtain ⟨q1, q2⟩ := aw_bif (show (bif Nat.beq v1 w1 then (bif Nat.blt v1 2 then (bif ae_wb n w3.2 then aw_eq k v3 (aw_su σ w3) else false) else bif Nat.beq v1 2 then Nat.beq v2 w2 else Nat.beq v1 3) else false) = true from q)
  have q1 : v1 = w1 := Nat.eq_of_beq_eq_true q1
  subst q1
  have key : ∀ {z : Int}, (bif ae_wb n w3.2 then aw_eq k v3 (aw_su σ w3) else false) = true → ae_dn k.1 ρ v3 z → ae_dn n (ap_ρ ρ σ) w3 z := by
    intro z h d
    obtain ⟨h1, h2⟩ := aw_bif h
    have h2 := aw_eq_ok hK h2
    rw [aw_su_ev, d.2] at h2
    exact ⟨ae_wb_ok h1, h2.symm⟩
  match v1, g, q2 with
  | 0, g, q2 => obtain ⟨y, h1, h2⟩ := g; exact ⟨y, h1, key q2 h2⟩
  | 1, g, q2 => obtain ⟨y, h1, h2⟩ := g; exact ⟨y, h1, key q2 h2⟩
  | 2, g, q2 =>
    have q2 : Nat.beq v2 w2 = true := q2
    have := Nat.eq_of_beq_eq_true q2
    have g : x = .ref v2 := g
    show x = .ref w2
    rw [g, this]
  | 3, g, _ => exact g
  | n + 4, _, q2 => cases q2
noncomputable def aw_lm (n : Nat) (k : ae_K) (σ : List ae_X) (lv lt : ae_L) : Bool := aw_all (fun q => match ae_lg lv q.1 with
  | some a => aw_vq n k σ a q.2
  | none => false) lt
noncomputable def aw_sm (n : Nat) (k : ae_K) (σ : List ae_X) (l m : List ae_V) : Bool := List.rec (motive := fun _ => List ae_V → Bool) (fun m => List.rec (motive := fun _ => Bool) true (fun _ _ _ => false) m) (fun a _ ih m => List.rec (motive := fun _ => Bool) false (fun b t _ => bif aw_vq n k σ a b then ih t else false) m) l m
noncomputable def aw_fm (n : Nat) (k : ae_K) (σ : List ae_X) (l m : List ap_F) : Bool := List.rec (motive := fun _ => List ap_F → Bool) (fun m => List.rec (motive := fun _ => Bool) true (fun _ _ _ => false) m) (fun f _ ih m => List.rec (motive := fun _ => Bool) false (fun t u _ => bif Nat.beq f.2.1 t.2.1 then (bif Nat.beq f.2.2.1 t.2.2.1 then (bif Nat.ble t.1 f.1 then (bif aw_lm n k σ f.2.2.2.1 t.2.2.2.1 then (bif aw_sm n k σ f.2.2.2.2 t.2.2.2.2 then ih u else false) else false) else false) else false) else false) m) l m
noncomputable def aw_om (n : Nat) (k : ae_K) (σ : List ae_X) : Option ae_V → Option ae_V → Bool
  | none, none => true
  | some a, some b => aw_vq n k σ a b
  | _, _ => false
noncomputable def aw_tm (n : Nat) (k : ae_K) (σ : List ae_X) (a t : ap_T) : Bool := aw_fm n k σ a.1 t.1 && (match t.1 with
  | [] => aw_om n k σ a.2 t.2
  | _ :: _ => true)
section AWC
variable {n : Nat} {k : ae_K} {ρ : Nat → Int} {σ : List ae_X}
theorem aw_lm_ok (hK : ae_okK ρ k) {lv lt : ae_L} {lw : am_L} (q : aw_lm n k σ lv lt = true) (g : ae_lr k.1 ρ lv lw) : ae_lr n (ap_ρ ρ σ) lt lw := by
  intro p hp
  have h := aw_all_mem q p hp
  change (match ae_lg lv p.1 with
    | some a => aw_vq n k σ a p.2
    | none => false) = true at h
  split at h
  · rename_i a ha
    obtain ⟨v, g1, g2⟩ := ae_lg_ok g ha
    exact ⟨v, g1, aw_vq_ok hK h g2⟩
  · cases h
theorem aw_sm_ok (hK : ae_okK ρ k) : ∀ {a t : List ae_V} {sw : List Value}, aw_sm n k σ a t = true → ae_sr k.1 ρ a sw → ae_sr n (ap_ρ ρ σ) t sw
  | [], [], [], _, _ => trivial
  | a :: r, b :: t, v :: w, q, g => by
    have q := ai_bif (show (bif aw_vq n k σ a b then aw_sm n k σ r t else false) = true from q)
    exact ⟨aw_vq_ok hK q.1 g.1, aw_sm_ok hK q.2 g.2⟩
  | [], [], _ :: _, _, g => absurd g id
  | [], _ :: _, _, q, _ => by cases q
  | _ :: _, [], _, q, _ => by cases q
  | _ :: _, _ :: _, [], _, g => absurd g id
theorem aw_fm_ok (hK : ae_okK ρ k) : ∀ {a t : List ap_F} {g : List am_Fr}, aw_fm n k σ a t = true → ap_ff k.1 ρ a g → ap_ff n (ap_ρ ρ σ) t g
  | [], [], [], _, _ => trivial
  | f :: r, t :: u, v :: w, q, g => by
    obtain ⟨q1, q⟩ := ai_bif (show (bif Nat.beq f.2.1 t.2.1 then (bif Nat.beq f.2.2.1 t.2.2.1 then (bif Nat.ble t.1 f.1 then (bif aw_lm n k σ f.2.2.2.1 t.2.2.2.1 then (bif aw_sm n k σ f.2.2.2.2 t.2.2.2.2 then aw_fm n k σ r u else false) else false) else false) else false) else false) = true from q)
    obtain ⟨q2, q⟩ := ai_bif q
    obtain ⟨q3, q⟩ := ai_bif q
    obtain ⟨q4, q⟩ := ai_bif q
    obtain ⟨q5, q6⟩ := ai_bif q
    refine ⟨⟨Nat.le_trans (Nat.le_of_ble_eq_true q3) g.1.1, (Nat.eq_of_beq_eq_true q1).symm.trans g.1.2.1, (Nat.eq_of_beq_eq_true q2).symm.trans g.1.2.2.1, aw_lm_ok hK q4 g.1.2.2.2.1, aw_sm_ok hK q5 g.1.2.2.2.2⟩, aw_fm_ok hK q6 g.2⟩
  | [], [], _ :: _, _, g => absurd g id
  | [], _ :: _, _, q, _ => by cases q
  | _ :: _, [], _, q, _ => by cases q
  | _ :: _, _ :: _, [], _, g => absurd g id
theorem aw_tm_ok (hK : ae_okK ρ k) {a t : ap_T} {g : ap_cT} (q : aw_tm n k σ a t = true) (h : ap_tt k.1 ρ a g) : ap_tt n (ap_ρ ρ σ) t g := by
  unfold aw_tm at q
  rw [Bool.and_eq_true] at q
  refine ⟨aw_fm_ok hK q.1 h.1, fun e => ?_⟩
  have q2 := q.2
  rw [e] at q2
  have q2 : aw_om n k σ a.2 t.2 = true := q2
  have e2 : a.1 = [] := by
    have q1 := q.1
    rw [e] at q1
    cases ha : a.1 with
    | nil => rfl
    | cons _ _ => rw [ha] at q1; cases q1
  have h2 := h.2 e2
  unfold aw_om at q2
  unfold ae_ro at h2 ⊢
  split at q2
  · rename_i h3 h4
    rw [h3] at h2
    rw [h4]
    exact h2
  · rename_i v w h3 h4
    rw [h3] at h2
    rw [h4]
    obtain ⟨x, h5, h6⟩ := h2
    exact ⟨x, h5, aw_vq_ok hK q2 h6⟩
  · cases q2
end AWC
/-- bounds: those of a symbol as they stand, first -/
noncomputable def aw_rs (k : ae_K) (c : Int) (s : Nat) (x lo hi : Int) : Bool := bif ae_ie x 1 then (match ae_bg k.2.1 s with
  | some b => ae_le lo (c + b.1) && ae_le (c + b.2) hi
  | none => false) else false
noncomputable def aw_rq (k : ae_K) (e : ae_X) (lo hi : Int) : Bool := match e with
  | (c, l) => (match l with
    | [] => ae_le lo c && ae_le c hi
    | t :: r => (match r with
      | [] => Bool.rec (motive := fun _ => Bool) (ae_rg k (c, [t]) lo hi) true (aw_rs k c t.1 t.2 lo hi)
      | u :: r => ae_rg k (c, t :: u :: r) lo hi))
theorem aw_rq_ok {k : ae_K} {ρ : Nat → Int} (hK : ae_okK ρ k) {e : ae_X} {lo hi : Int} (q : aw_rq k e lo hi = true) : lo ≤ ae_ev ρ e ∧ ae_ev ρ e ≤ hi := by
  obtain ⟨c, l⟩ := e
  cases l with
  | nil =>
    have q : (ae_le lo c && ae_le c hi) = true := q
    rw [Bool.and_eq_true] at q
    have h1 := ae_le_iff.mp q.1
    have h2 := ae_le_iff.mp q.2
    have e : ae_ev ρ (c, []) = c + 0 := rfl
    rw [e]
    omega
  | cons t r =>
    cases r with
    | cons u r => exact ae_rg_ok hK (show ae_rg k (c, t :: u :: r) lo hi = true from q)
    | nil =>
      have q : Bool.rec (motive := fun _ => Bool) (ae_rg k (c, [t]) lo hi) true (aw_rs k c t.1 t.2 lo hi) = true := q
      cases h : aw_rs k c t.1 t.2 lo hi with
      | false =>
        rw [h] at q
        exact ae_rg_ok hK (show ae_rg k (c, [t]) lo hi = true from q)
      | true =>
        unfold aw_rs at h
        obtain ⟨h1, h⟩ := aw_bif h
        have h1 := ae_ie_ok h1
        split at h
        · rename_i b hb
          rw [Bool.and_eq_true] at h
          have b1 := ae_bg_ok hK.1 hb
          have l1 := ae_le_iff.mp h.1
          have l2 := ae_le_iff.mp h.2
          have e : ae_ev ρ (c, [t]) = c + (t.2 * ρ t.1 + 0) := rfl
          rw [e, h1]
          omega
        · cases h
noncomputable def aw_bq (k : ae_K) (e : ae_X) (b : Option (Int × Int)) : Bool := match b with
  | some b => aw_rq k e b.1 b.2
  | none => true
/-- a site; 0, or 1 more than the kind of the cell that it tells; its bounds -/
abbrev aw_Pd : Type := ap_Si × Nat × Option (Int × Int)
noncomputable def aw_isd (p j s : Nat) (m : ae_M) : Bool := Nat.beq m.1 p && (ae_xe m.2.1 (ae_num (j : Int)) && (Nat.blt m.2.2.1.1 2 && ae_xe m.2.2.1.2.2 (ae_sym s)))
noncomputable def aw_tg (M : List ae_M) (p j s : Nat) : Nat := List.rec (motive := fun _ => Nat) 0 (fun m _ r => Bool.rec (motive := fun _ => Nat) r (m.2.2.1.1 + 1) (aw_isd p j s m)) M
noncomputable def aw_pg (M : List ae_M) (x : ap_Si) (s : Nat) : Nat := Bool.rec (motive := fun _ => Nat) 0 (aw_tg M x.2.1 x.2.2 s) (Nat.beq x.1 0)
noncomputable def aw_prp (B : ae_B) (M : List ae_M) (l : List ap_Si) (s : Nat) : List aw_Pd := List.rec (motive := fun _ => Nat → List aw_Pd) (fun _ => []) (fun x _ ih s => (x, aw_pg M x s, ae_bg B s) :: ih (s + 1)) l s
theorem aw_prp_at {B : ae_B} {M : List ae_M} : ∀ {l : List ap_Si} {s i : Nat} {x : ap_Si}, aw_at l i = some x → aw_at (aw_prp B M l s) i = some (x, aw_pg M x (s + i), ae_bg B (s + i))
  | [], _, _, _, q => by cases q
  | y :: r, s, 0, x, q => by
    have q : some y = some x := q
    cases q
    rfl
  | y :: r, s, i + 1, x, q => by
    have ih := aw_prp_at (B := B) (M := M) (l := r) (s := s + 1) (i := i) (x := x) q
    rw [show s + 1 + i = s + (i + 1) by omega] at ih
    exact ih
/-- what is known of the number at a site -/
noncomputable def aw_p1 (L : Nat) (xs : Nat → Int32) (h : List am_E) (n : Nat) (ρ : Nat → Int) (d : aw_Pd) (e : ae_X) : Prop :=
  ae_wt n e.2 ∧ (∀ b, d.2.2 = some b → b.1 ≤ ae_ev ρ e ∧ ae_ev ρ e ≤ b.2) ∧ (d.1.1 = 0 → ¬ d.2.1 = 0 → ∃ (v : ae_V) (x : Value), v.2.2 = e ∧ v.1 + 1 = d.2.1 ∧ v.1 < 2 ∧ ae_cell L xs h d.1.2.1 d.1.2.2 = some x ∧ ae_ok n ρ v x)
noncomputable def aw_po (L : Nat) (xs : Nat → Int32) (h : List am_E) (n : Nat) (ρ : Nat → Int) : List aw_Pd → List ae_X → Prop
  | [], [] => True
  | d :: r, e :: l => aw_p1 L xs h n ρ d e ∧ aw_po L xs h n ρ r l
  | _, _ => False
theorem aw_p1_ext {L : Nat} {xs : Nat → Int32} {h : List am_E} {n m : Nat} {ρ ρ' : Nat → Int} (hn : n ≤ m) (a : ae_ag n ρ ρ') {d : aw_Pd} {e : ae_X} (q : aw_p1 L xs h n ρ d e) : aw_p1 L xs h m ρ' d e := by
  obtain ⟨q1, q2, q3⟩ := q
  refine ⟨ae_wt_le hn q1, fun b hb => ?_, fun h1 h2 => ?_⟩
  · rw [ae_ev_ag a q1]
    exact q2 b hb
  · obtain ⟨v, x, e1, e2, e3, e4, e5⟩ := q3 h1 h2
    exact ⟨v, x, e1, e2, e3, e4, ae_ok_ext hn a e5⟩
theorem aw_po_at {L : Nat} {xs : Nat → Int32} {h : List am_E} {n : Nat} {ρ : Nat → Int} : ∀ {l : List aw_Pd} {m : List ae_X}, aw_po L xs h n ρ l m → ∀ {i : Nat} {d : aw_Pd}, aw_at l i = some d → ∃ e, aw_at m i = some e ∧ aw_p1 L xs h n ρ d e
  | [], [], _, _, _, q => by cases q
  | [], _ :: _, g, _, _, _ => absurd g id
  | _ :: _, [], g, _, _, _ => absurd g id
  | d' :: r, e :: m, g, 0, d, q => by
    have q : some d' = some d := q
    cases q
    exact ⟨e, rfl, g.1⟩
  | d' :: r, e :: m, g, i + 1, d, q => aw_po_at (l := r) (m := m) g.2 (i := i) (d := d) q
noncomputable def aw_av0 (T : List ab_Ti) (w : ae_Mo) (t1 t2 : ap_T) (a p j : Nat) (acc : List ae_X) (k : ae_K) (M O : List ae_M) : Option (Nat × ae_X × ae_K × List ae_M × List ae_M) :=
  bif Nat.beq a 0 then (match ae_fd M p (ae_num (j : Int)) with
      | some m => some (m.2.2.1.1, m.2.2.1.2.2, k, M, O)
      | none => bif Nat.blt 0 p && Nat.ble p ae_np && Nat.blt j (ae_sh p).2.2 then (ab_ld T w k M O p (ae_num (j : Int))).bind fun q => (ae_fd q.2.1 p (ae_num (j : Int))).bind fun m => some (m.2.2.1.1, m.2.2.1.2.2, q) else none)
    else (ap_si (aw_rv acc []) k M t1 t2 (a % 1000, p, j)).bind fun v => bif ae_wb k.1 (ap_sdv (a / 1000) v.2.2).2 then some (v.1, ap_sdv (a / 1000) v.2.2, k, M, O) else none
noncomputable def aw_av (T : List ab_Ti) (w : ae_Mo) (t1 t2 : ap_T) (s : ap_Si) (acc : List ae_X) (k : ae_K) (M O : List ae_M) : Option (Nat × ae_X × ae_K × List ae_M × List ae_M) := match s with
  | (a, p, j) => aw_av0 T w t1 t2 a p j acc k M O
noncomputable def aw_go (T : List ab_Ti) (w : ae_Mo) (t1 t2 : ap_T) (l : List aw_Pd) (acc : List ae_X) (k : ae_K) (M O : List ae_M) : Option (List ae_X × ae_K × List ae_M × List ae_M) :=
  List.rec (motive := fun _ => List ae_X → ae_K → List ae_M → List ae_M → Option (List ae_X × ae_K × List ae_M × List ae_M)) (fun acc k M O => some (acc, k, M, O))
    (fun d _ ih acc k M O => match aw_av T w t1 t2 d.1 acc k M O with
      | some (tg, e, k, M, O) => bif Nat.blt tg 2 && ((Nat.beq d.2.1 0 || Nat.beq (tg + 1) d.2.1) && aw_bq k e d.2.2) then ih (e :: acc) k M O else none
      | none => none) l acc k M O
theorem aw_go_c (T : List ab_Ti) (w : ae_Mo) (t1 t2 : ap_T) (d : aw_Pd) (l : List aw_Pd) (acc : List ae_X) (k : ae_K) (M O : List ae_M) : aw_go T w t1 t2 (d :: l) acc k M O = (match aw_av T w t1 t2 d.1 acc k M O with
      | some (tg, e, k, M, O) => bif Nat.blt tg 2 && ((Nat.beq d.2.1 0 || Nat.beq (tg + 1) d.2.1) && aw_bq k e d.2.2) then aw_go T w t1 t2 l (e :: acc) k M O else none
      | none => none) := rfl
section AWD
variable {L : Nat} {xs : Nat → Int32} {h0 h : List am_E} {w : ae_Mo} {T : List ab_Ti} {t1 t2 : ap_T}
theorem aw_fd_at {n : Nat} {ρ : Nat → Int} {M : List ae_M} (hH : ae_hp false n ρ L xs M h) {p j : Nat} {m : ae_M} (q : ae_fd M p (ae_num (j : Int)) = some m) : ∃ x, ae_cell L xs h p j = some x ∧ ae_ok n ρ m.2.2.1 x := by
  obtain ⟨h1, h2, h3⟩ := ae_fd_ok q
  obtain ⟨j', x, d, c, o⟩ := hH.2.1 m h1
  rw [h3] at d
  have e : (j : Int) + 0 = (j' : Int) := d.2
  have : j' = j := by omega
  subst this
  rw [h2] at c
  exact ⟨x, c, o⟩
theorem aw_ok_wt {n : Nat} {ρ : Nat → Int} {v : ae_V} {x : Value} (hv : v.1 < 2) (o : ae_ok n ρ v x) : ae_wt n v.2.2.2 := by
  obtain ⟨a, b, e⟩ := v
  match a, hv, o with
  | 0, _, o => obtain ⟨y, -, d⟩ := o; exact d.1
  | 1, _, o => obtain ⟨y, -, d⟩ := o; exact d.1
  | a + 2, hv, _ => exact absurd hv (by show ¬ a + 2 < 2; omega)
theorem aw_av_ok (hr : ae_rok = true) (hT : ab_RI T (ab_cv L xs h0)) (hF : ae_fr w L xs h0 h) {ρ : Nat → Int} {s : ap_Si} {acc : List ae_X} {k : ae_K} {M O : List ae_M} (hK : ae_okK ρ k) (hH : ae_hp false k.1 ρ L xs M h) (hO : ∀ m ∈ O, ae_eo k.1 ρ L xs h0 m) {tg : Nat} {e : ae_X} {k' : ae_K} {M' O' : List ae_M} (q : aw_av T w t1 t2 s acc k M O = some (tg, e, k', M', O')) :
    ∃ ρ', ae_up2 ρ k ρ' k' ∧ ae_hp false k'.1 ρ' L xs M' h ∧ (∀ m ∈ O', ae_eo k'.1 ρ' L xs h0 m) ∧ (tg < 2 → ae_wt k'.1 e.2) ∧ (s.1 = 0 → ∃ (v : ae_V) (x : Value), v.2.2 = e ∧ v.1 = tg ∧ ae_cell L xs h s.2.1 s.2.2 = some x ∧ ae_ok k'.1 ρ' v x) := by
  obtain ⟨a, p, j⟩ := s
  have me : ae_up2 ρ k ρ k := ⟨Nat.le_refl _, ae_ag_rf _ _, hK⟩
  change aw_av0 T w t1 t2 a p j acc k M O = some (tg, e, k', M', O') at q
  unfold aw_av0 at q
  cases ha : Nat.beq a 0 with
  | true =>
    rw [ha] at q
    change (match ae_fd M p (ae_num (j : Int)) with
      | some m => some (m.2.2.1.1, m.2.2.1.2.2, k, M, O)
      | none => bif Nat.blt 0 p && Nat.ble p ae_np && Nat.blt j (ae_sh p).2.2 then (ab_ld T w k M O p (ae_num (j : Int))).bind fun q => (ae_fd q.2.1 p (ae_num (j : Int))).bind fun m => some (m.2.2.1.1, m.2.2.1.2.2, q) else none) = some (tg, e, k', M', O') at q
    split at q
    · rename_i m hm
      cases q
      obtain ⟨x, c, o⟩ := aw_fd_at hH hm
      exact ⟨ρ, me, hH, hO, fun h => aw_ok_wt h o, fun _ => ⟨m.2.2.1, x, rfl, rfl, c, o⟩⟩
    · obtain ⟨hb, q⟩ := ae_bif q
      simp only [Bool.and_eq_true] at hb
      obtain ⟨y, h1, q⟩ := Option.bind_eq_some_iff.mp q
      obtain ⟨m, hm, q⟩ := Option.bind_eq_some_iff.mp q
      cases q
      obtain ⟨ρ1, u1, H1, O1⟩ := ab_ld_ok hr hK hH hT hF hO (ae_num_dn _) (Nat.blt_eq.mp hb.1.1) (Nat.le_of_ble_eq_true hb.1.2) (Nat.blt_eq.mp hb.2) h1
      obtain ⟨x, c, o⟩ := aw_fd_at H1 hm
      exact ⟨ρ1, u1, H1, O1, fun h => aw_ok_wt h o, fun _ => ⟨m.2.2.1, x, rfl, rfl, c, o⟩⟩
  | false =>
    rw [ha] at q
    obtain ⟨v, h1, q⟩ := Option.bind_eq_some_iff.mp (show ((ap_si (aw_rv acc []) k M t1 t2 (a % 1000, p, j)).bind fun v => bif ae_wb k.1 (ap_sdv (a / 1000) v.2.2).2 then some (v.1, ap_sdv (a / 1000) v.2.2, k, M, O) else none) = some (tg, e, k', M', O') from q)
    obtain ⟨hb, q⟩ := ae_bif q
    cases q
    exact ⟨ρ, me, hH, hO, fun _ => ae_wb_ok hb, fun h => by
      have h : a = 0 := h
      rw [h] at ha
      cases ha⟩
theorem aw_go_ok (hr : ae_rok = true) (hT : ab_RI T (ab_cv L xs h0)) (hF : ae_fr w L xs h0 h) : ∀ {l : List aw_Pd} {ρ : Nat → Int} {acc : List ae_X} {k : ae_K} {M O : List ae_M} {acc' : List ae_X} {k' : ae_K} {M' O' : List ae_M}, ae_okK ρ k → ae_hp false k.1 ρ L xs M h → (∀ m ∈ O, ae_eo k.1 ρ L xs h0 m) → aw_go T w t1 t2 l acc k M O = some (acc', k', M', O') →
    ∃ (ρ' : Nat → Int) (m : List ae_X), ae_up2 ρ k ρ' k' ∧ ae_hp false k'.1 ρ' L xs M' h ∧ (∀ m ∈ O', ae_eo k'.1 ρ' L xs h0 m) ∧ acc' = m.reverse ++ acc ∧ aw_po L xs h k'.1 ρ' l m
  | [], ρ, acc, k, M, O, acc', k', M', O', hK, hH, hO, q => by
    have q : some (acc, k, M, O) = some (acc', k', M', O') := q
    cases q
    exact ⟨ρ, [], ⟨Nat.le_refl _, ae_ag_rf _ _, hK⟩, hH, hO, rfl, trivial⟩
  | d :: l, ρ, acc, k, M, O, acc', k', M', O', hK, hH, hO, q => by
    rw [aw_go_c] at q
    split at q
    · rename_i tg e k1 M1 O1 h1
      obtain ⟨hb, q⟩ := ae_bif q
      simp only [Bool.and_eq_true] at hb
      obtain ⟨b1, b2, b3⟩ := hb
      have b1 := Nat.blt_eq.mp b1
      obtain ⟨ρ1, u1, H1, P1, w1, f1⟩ := aw_av_ok hr hT hF hK hH hO h1
      obtain ⟨ρ2, m, u2, H2, P2, e2, p2⟩ := aw_go_ok hr hT hF (l := l) u1.2.2 H1 P1 q
      refine ⟨ρ2, e :: m, u1.tr u2, H2, P2, ?_, aw_p1_ext u2.1 u2.2.1 (n := k1.1) (ρ := ρ1) ⟨w1 b1, fun b hb => ?_, fun h2 h3 => ?_⟩, p2⟩
      · rw [e2, List.reverse_cons, List.append_assoc]
        rfl
      · have b3 : aw_bq k1 e d.2.2 = true := b3
        rw [hb] at b3
        exact aw_rq_ok u1.2.2 b3
      · obtain ⟨v, x, g1, g2, g3, g4⟩ := f1 h2
        rcases Bool.or_eq_true_iff.mp b2 with b2 | b2
        · exact absurd (Nat.eq_of_beq_eq_true b2) h3
        · exact ⟨v, x, g1, by rw [g2]; exact Nat.eq_of_beq_eq_true b2, by rw [g2]; exact b1, g3, g4⟩
    · cases q
end AWD
/-- the symbol of a number that is one -/
noncomputable def aw_s1 (e : ae_X) : Nat := match e.2 with
  | t :: _ => t.1
  | [] => 0
/-- an entry whose number a site tells -/
noncomputable def aw_dq1 (R : Nat) (si : List ap_Si) (M : List ae_M) (m : ae_M) (j s : Nat) : Bool := Nat.ble R s && (aw_isd m.1 j s m && ((match aw_at si (s - R) with
  | some x => Nat.beq x.1 0 && (Nat.beq x.2.1 m.1 && Nat.beq x.2.2 j)
  | none => false) && Nat.beq (aw_tg M m.1 j s) (m.2.2.1.1 + 1)))
noncomputable def aw_dq (R : Nat) (si : List ap_Si) (M : List ae_M) (m : ae_M) : Bool := aw_dq1 R si M m m.2.1.1.toNat (aw_s1 m.2.2.1.2.2)
noncomputable def aw_td (m : ae_M) : Bool := ae_kc m.2.1 && (Nat.blt m.2.2.1.1 2 && ae_kc m.2.2.1.2.2)
noncomputable def aw_Rs (R : Nat) (t : ab_Tm) : List ae_M := t.st.m.filter fun m => !(aw_dq R t.si t.st.m m)
noncomputable def aw_As (R : Nat) (t : ab_Tm) : List ae_M := (aw_Rs R t).filter aw_td
noncomputable def aw_Bs (R : Nat) (t : ab_Tm) : List ae_M := (aw_Rs R t).filter fun m => !(aw_td m)
noncomputable def aw_lo (R : Nat) (t : ab_Tm) : ae_B := t.st.k.2.1.filter fun q => Nat.blt q.1 R
noncomputable def aw_pr (R : Nat) (t : ab_Tm) : List aw_Pd := aw_prp t.st.k.2.1 t.st.m t.si R
noncomputable def aw_pok (R : Nat) (t : ab_Tm) : Bool := t.st.k.2.1.all fun q => Nat.blt q.1 R || (Nat.blt q.1 (R + t.si.length) && (match ae_bg t.st.k.2.1 q.1 with
  | some b => ae_ie b.1 q.2.1 && ae_ie b.2 q.2.2
  | none => false))
noncomputable def aw_ma (k : ae_K) (M : List ae_M) (t : ae_M) : Bool := match ae_fd M t.1 t.2.1 with
  | some m => aw_vq 0 k [] m.2.2.1 t.2.2.1
  | none => false
noncomputable def aw_m1 (n : Nat) (k : ae_K) (σ : List ae_X) (t m : ae_M) : Bool := Nat.beq m.1 t.1 && (aw_eq k m.2.1 (aw_su σ t.2.1) && aw_vq n k σ m.2.2.1 t.2.2.1)
noncomputable def aw_mf (n : Nat) (k : ae_K) (σ : List ae_X) (M : List ae_M) (t : ae_M) : Bool := match ae_fd M t.1 (aw_su σ t.2.1) with
  | some m => aw_vq n k σ m.2.2.1 t.2.2.1
  | none => false
noncomputable def aw_me (n : Nat) (k : ae_K) (σ : List ae_X) (M : List ae_M) (t : ae_M) : Bool := ae_wb n t.2.1.2 && (aw_mf n k σ M t || M.any (aw_m1 n k σ t))
noncomputable def aw_md (n : Nat) (k : ae_K) (σ : List ae_X) (T : List ae_M) (m : ae_M) : Bool := bif m.2.2.2 then T.any fun t => t.2.2.2 && aw_m1 n k σ t m else true
noncomputable def aw_fin (R : Nat) (w0 : ae_X) (ric : ae_K → List ae_M → List ae_M → Bool) (t1 t2 : ap_T) (t : ab_Tm) (σ : List ae_X) (k : ae_K) (M O : List ae_M) : Bool :=
  Nat.beq t.st.k.1 σ.length && (aw_all (fun q => aw_rq k (ae_sym q.1) q.2.1 q.2.2) (aw_lo R t) && (aw_all (fun f => ae_wb t.st.k.1 f.2 && ae_z k (aw_su σ f)) t.st.k.2.2.1 && (ab_nl t.st.k.2.2.2 && (aw_tm t.st.k.1 k σ t1 t.st.t1 && (aw_tm t.st.k.1 k σ t2 t.st.t2 && (aw_all (aw_me t.st.k.1 k σ M) (aw_Bs R t) && (aw_all (aw_md t.st.k.1 k σ t.st.m) M && (ric k M O && (ae_z k (ae_pls (ae_sub (aw_su σ t.rk) w0) 1) && ae_z k (ae_neg (aw_su σ t.rk) 0))))))))))
noncomputable def aw_acc (R : Nat) : List ae_X := (ap_s0 R).reverse
noncomputable def aw_mt (ric : ae_K → List ae_M → List ae_M → Bool) (R : Nat) (w0 : ae_X) (k : ae_K) (M O : List ae_M) (w : ae_Mo) (T : List ab_Ti) (t1 t2 : ap_T) (t : ab_Tm) : Bool :=
  bif Nat.blt 0 R && ab_ctl t1.1 t.st.t1.1 && ab_ctl t2.1 t.st.t2.1 && ab_nl t.st.o && ab_nl t.st.w then
    (bif aw_pok R t then ai_vq k M (fun M => match ab_lds T w (aw_Rs R t) k M O with
      | some (k1, M1, O1) => bif aw_all (aw_ma k1 M1) (aw_As R t) then (match aw_go T w t1 t2 (aw_pr R t) (aw_acc R) k1 M1 O1 with
        | some (acc, k2, M2, O2) => aw_fin R w0 ric t1 t2 t (aw_rv acc []) k2 M2 O2
        | none => false) else false
      | none => false) else false)
  else false
noncomputable def ab_mt (R : Nat) (w0 : ae_X) (z : ab_St) (t : ab_Tm) : Bool := aw_mt (fun k M O => ab_ric2 k M O z.w z.T t.st.T) R w0 z.k z.m z.o z.w z.T z.t1 z.t2 t
theorem aw_kc_dn {n m : Nat} {ρ ρ' : Nat → Int} {e : ae_X} {x : Int} (h : ae_kc e = true) (d : ae_dn n ρ e x) : ae_dn m ρ' e x := by
  obtain ⟨c, l⟩ := e
  cases l with
  | nil => exact ⟨trivial, d.2⟩
  | cons _ _ => cases h
section AWE
variable {G : List am_E → Prop} {L : Nat} {xs : Nat → Int32} {ρ : Nat → Int} {g1 g2 : ap_cT} {h1 h2 : List am_E}
theorem ab_mt_ok (hr : ae_rok = true) (hf : ae_fok = true) {R : Nat} {w0 : ae_X} {W0 : Int} {z : ab_St} {t : ab_Tm} (q : ab_mt R w0 z t = true) (S : ab_sat G L xs ρ z g1 g2 h1 h2) (hR : R ≤ z.k.1) (w1 : ae_wt z.k.1 w0.2) (w2 : ae_ev ρ w0 = W0) : ∃ ρ', ab_sat G L xs ρ' t.st g1 g2 h1 h2 ∧ 0 ≤ ae_ev ρ' t.rk ∧ ae_ev ρ' t.rk < W0 ∧ R ≤ t.st.k.1 ∧ ∀ s, s < R → ρ' s = ρ s := by
  obtain ⟨S1, S2, S4, S5, S6, S7, S8, S9, h0, r1, r2, r3⟩ := S
  unfold ab_mt aw_mt at q
  obtain ⟨hb, q⟩ := aw_bif q
  obtain ⟨hpok, q⟩ := aw_bif q
  simp only [Bool.and_eq_true] at hb
  have hR0 : 0 < R := Nat.blt_eq.mp hb.1.1.1.1
  have ho := ab_nl_ok hb.1.2
  have H1 := ab_vp_ok hf S1 S4
  rw [ai_vq_e] at q
  split at q
  · rename_i k1 M1 O1 hl
    obtain ⟨ha, q⟩ := aw_bif q
    obtain ⟨ρ1, u1, H2, P2⟩ := ab_lds_ok hr r1 r2 S1 H1 r3 hl
    have K1 : ae_okK ρ1 k1 := u1.2.2
    have H2 : ae_hp false k1.1 ρ1 L xs M1 (am_mX2 ap_b false h1 h2) := H2
    split at q
    · rename_i acc k2 M2 O2 hg
      obtain ⟨ρ2, m, u2, H3, P3, ea, po⟩ := aw_go_ok hr r1 r2 K1 H2 P2 hg
      have up : ae_up2 ρ z.k ρ2 k2 := u1.tr u2
      have K2 : ae_okK ρ2 k2 := u2.2.2
      have T1 := ap_tt_ext up.1 up.2.1 S5
      have T2 := ap_tt_ext up.1 up.2.1 S6
      have hσ : aw_rv acc [] = ap_s0 R ++ m := by
        rw [aw_rv_eq, ea]
        unfold aw_acc
        rw [List.append_nil, List.reverse_append, List.reverse_reverse, List.reverse_reverse]
      generalize aw_rv acc [] = σ at q hσ
      unfold aw_fin at q
      simp only [Bool.and_eq_true] at q
      obtain ⟨n1, nb, nf, nd, q3, q4, qm, qd, q5, q6, q7⟩ := q
      have n1 := Nat.eq_of_beq_eq_true n1
      have RI2 := ab_ric2_ok hr K2 H3 r1 r2 P3 q5
      have ls : (ap_s0 R).length = R := by
        unfold ap_s0
        rw [List.length_map, List.length_range]
      have hlen : σ.length = R + m.length := by rw [hσ, List.length_append, ls]
      have hl0 : ∀ s, s < R → σ.getD s (ae_num 0) = ae_sym s := by
        intro s hs'
        rw [hσ, List.getD_eq_getElem?_getD, List.getElem?_append_left (by rw [ls]; exact hs')]
        unfold ap_s0
        rw [List.getElem?_map, List.getElem?_range hs']
        rfl
      have hle : ∀ {i : Nat} {e : ae_X}, aw_at m i = some e → σ.getD (R + i) (ae_num 0) = e ∧ R + i < σ.length := by
        intro i e he
        rw [aw_at_eq] at he
        obtain ⟨hi, -⟩ := List.getElem?_eq_some_iff.mp he
        refine ⟨?_, by omega⟩
        rw [hσ, List.getD_eq_getElem?_getD, List.getElem?_append_right (by omega), ls, show R + i - R = i by omega, he]
        rfl
      have hsf : ∀ e, ae_ev ρ2 (aw_su σ e) = ae_ev (ap_ρ ρ2 σ) e := fun e => aw_su_ev ρ2 σ e
      have KT : ae_okK (ap_ρ ρ2 σ) t.st.k := by
        refine ⟨fun b hb => ?_, fun f hf' => ?_, fun d hd => ?_⟩
        · have h3 := List.all_eq_true.mp hpok b hb
          cases hx : Nat.blt b.1 R with
          | true =>
            have h4 := aw_rq_ok K2 (aw_all_mem nb b (List.mem_filter.mpr ⟨hb, hx⟩))
            have hx := Nat.blt_eq.mp hx
            have h5 : ap_ρ ρ2 σ b.1 = ae_ev ρ2 (ae_sym b.1) := by
              show ae_ev ρ2 (σ.getD b.1 (ae_num 0)) = _
              rw [hl0 _ hx]
            rw [h5]
            exact ⟨by omega, h4⟩
          | false =>
            rw [hx, Bool.false_or, Bool.and_eq_true] at h3
            obtain ⟨h3, h4⟩ := h3
            have h3 := Nat.blt_eq.mp h3
            have hR2 : R ≤ b.1 := by
              rcases Nat.lt_or_ge b.1 R with h | h
              · rw [Nat.blt_eq.mpr h] at hx
                cases hx
              · exact h
            split at h4
            · rename_i b' hb'
              rw [Bool.and_eq_true] at h4
              obtain ⟨y, hy⟩ : ∃ y, aw_at t.si (b.1 - R) = some y := by
                rw [aw_at_eq]
                exact ⟨_, List.getElem?_eq_getElem (by omega)⟩
              have h5 := aw_prp_at (B := t.st.k.2.1) (M := t.st.m) (s := R) hy
              obtain ⟨e, e1, e2, e3, e4⟩ := aw_po_at po h5
              obtain ⟨f1, f2⟩ := hle e1
              rw [show R + (b.1 - R) = b.1 by omega] at f1 f2 e3
              have h6 := e3 b' hb'
              have h7 : ap_ρ ρ2 σ b.1 = ae_ev ρ2 e := by
                show ae_ev ρ2 (σ.getD b.1 (ae_num 0)) = _
                rw [f1]
              rw [h7, ← ae_ie_ok h4.1, ← ae_ie_ok h4.2]
              exact ⟨by omega, h6⟩
            · cases h4
        · have h3 := aw_all_mem nf f hf'
          rw [Bool.and_eq_true] at h3
          have h4 := ae_z_ok K2 h3.2
          rw [hsf] at h4
          exact ⟨ae_wb_ok h3.1, h4⟩
        · have nd := ab_nl_ok nd
          rw [nd] at hd
          exact absurd hd List.not_mem_nil
      have K0 : ae_k0 (ap_ρ ρ2 σ) L t.st.k := by
        refine ⟨⟨by omega, S2.1.2⟩, ?_⟩
        show ae_ev ρ2 (σ.getD 0 (ae_num 0)) = (L : Int)
        rw [hl0 0 hR0]
        have h3 := ae_k0_up S2 up
        have h4 := (ae_sym_dn (n := k2.1) (ρ := ρ2) (s := 0) h3.1.1).2
        rw [h4]
        exact h3.2
      have ent : ∀ m' ∈ t.st.m, ae_eo t.st.k.1 (ap_ρ ρ2 σ) L xs (am_mX2 ap_b false h1 h2) m' := by
        intro m' hm'
        cases hdq : aw_dq R t.si t.st.m m' with
        | true =>
          unfold aw_dq aw_dq1 aw_isd at hdq
          simp only [Bool.and_eq_true] at hdq
          obtain ⟨d1, ⟨-, e2, e3, e4⟩, d3, d4⟩ := hdq
          have d1 := Nat.le_of_ble_eq_true d1
          have e2 := ae_xe_ok e2
          have e4 := ae_xe_ok e4
          have d4 := Nat.eq_of_beq_eq_true d4
          generalize aw_s1 m'.2.2.1.2.2 = s at d1 d3 d4 e4
          generalize m'.2.1.1.toNat = j at d3 d4 e2
          split at d3
          · rename_i x hx
            simp only [Bool.and_eq_true] at d3
            obtain ⟨x1, x2, x3⟩ := d3
            have x1' := Nat.eq_of_beq_eq_true x1
            have x2 := Nat.eq_of_beq_eq_true x2
            have x3 := Nat.eq_of_beq_eq_true x3
            have h5 := aw_prp_at (B := t.st.k.2.1) (M := t.st.m) (s := R) hx
            rw [show R + (s - R) = s by omega] at h5
            obtain ⟨e, f1, f2, f3, f4⟩ := aw_po_at po h5
            obtain ⟨y1, y2⟩ := hle f1
            rw [show R + (s - R) = s by omega] at y1 y2
            have pg : aw_pg t.st.m x s = m'.2.2.1.1 + 1 := by
              unfold aw_pg
              rw [x1, x2, x3]
              exact d4
            obtain ⟨v, y, v1, v2, v3, v4, v5⟩ := f4 x1' (by show ¬ aw_pg t.st.m x s = 0; rw [pg]; omega)
            have v2 : v.1 + 1 = aw_pg t.st.m x s := v2
            rw [pg] at v2
            have v4 : ae_cell L xs (am_mX2 ap_b false h1 h2) x.2.1 x.2.2 = some y := v4
            rw [x2, x3] at v4
            have dn : ∀ {u : Int}, ae_dn k2.1 ρ2 v.2.2 u → ae_dn t.st.k.1 (ap_ρ ρ2 σ) m'.2.2.1.2.2 u := by
              intro u d
              rw [e4]
              refine ⟨⟨by omega, trivial⟩, ?_⟩
              show 0 + (1 * ae_ev ρ2 (σ.getD s (ae_num 0)) + 0) = u
              have := d.2
              rw [v1] at this
              rw [y1]
              omega
            refine ⟨j, y, by rw [e2]; exact ae_num_dn _, v4, ?_⟩
            have vt : v.1 = m'.2.2.1.1 := by omega
            revert v5 dn vt v3
            generalize m'.2.2.1 = a
            obtain ⟨va, vb, ve⟩ := v
            obtain ⟨aa, ab, ae⟩ := a
            intro v3 v5 dn vt
            have vt : va = aa := vt
            subst vt
            match va, v3, v5 with
            | 0, _, v5 => obtain ⟨i, i1, i2⟩ := v5; exact ⟨i, i1, dn i2⟩
            | 1, _, v5 => obtain ⟨i, i1, i2⟩ := v5; exact ⟨i, i1, dn i2⟩
            | i + 2, v3, _ => exact absurd v3 (by show ¬ i + 2 < 2; omega)
          · cases d3
        | false =>
          have hRs : m' ∈ aw_Rs R t := List.mem_filter.mpr ⟨hm', by rw [hdq]; rfl⟩
          cases htd : aw_td m' with
          | true =>
            have h3 := aw_all_mem ha m' (List.mem_filter.mpr ⟨hRs, htd⟩)
            unfold aw_ma at h3
            split at h3
            · rename_i m0 hm0
              obtain ⟨i1, i2, i3⟩ := ae_fd_ok hm0
              obtain ⟨j, y, y1, y2, y3⟩ := H2.2.1 m0 i1
              unfold aw_td at htd
              rw [Bool.and_eq_true] at htd
              rw [i3] at y1
              rw [i2] at y2
              exact ⟨j, y, aw_kc_dn htd.1 y1, y2, ae_ok_ext (Nat.zero_le _) (fun s hs => absurd hs (Nat.not_lt_zero _)) (aw_vq_ok K1 h3 y3)⟩
            · cases h3
          | false =>
            have h3 := aw_all_mem qm m' (List.mem_filter.mpr ⟨hRs, by rw [htd]; rfl⟩)
            unfold aw_me at h3
            rw [Bool.and_eq_true] at h3
            have fin : ∀ m0 ∈ M2, m0.1 = m'.1 → ae_ev ρ2 m0.2.1 = ae_ev ρ2 (aw_su σ m'.2.1) → aw_vq t.st.k.1 k2 σ m0.2.2.1 m'.2.2.1 = true → ae_eo t.st.k.1 (ap_ρ ρ2 σ) L xs (am_mX2 ap_b false h1 h2) m' := by
              intro m0 i1 i2 i3 i4
              obtain ⟨j, y, y1, y2, y3⟩ := H3.2.1 m0 i1
              rw [hsf, y1.2] at i3
              rw [i2] at y2
              exact ⟨j, y, ⟨ae_wb_ok h3.1, i3.symm⟩, y2, aw_vq_ok K2 i4 y3⟩
            rcases Bool.or_eq_true_iff.mp h3.2 with h4 | h4
            · unfold aw_mf at h4
              split at h4
              · rename_i m0 hm0
                obtain ⟨i1, i2, i3⟩ := ae_fd_ok hm0
                exact fin m0 i1 i2 (by rw [i3]) h4
              · cases h4
            · obtain ⟨m0, i1, h5⟩ := List.any_eq_true.mp h4
              unfold aw_m1 at h5
              simp only [Bool.and_eq_true] at h5
              exact fin m0 i1 (Nat.eq_of_beq_eq_true h5.1) (aw_eq_ok K2 h5.2.1) h5.2.2
      have dyt : ∀ p j, ae_dy ρ2 M2 p j → ae_dy (ap_ρ ρ2 σ) t.st.m p j := by
        intro p j ⟨m', f1, f2, f3, f4⟩
        have h3 := aw_all_mem qd m' f1
        unfold aw_md at h3
        rw [f2] at h3
        have h3 : (t.st.m.any fun t' => t'.2.2.2 && aw_m1 t.st.k.1 k2 σ t' m') = true := h3
        obtain ⟨t', i1, i2⟩ := List.any_eq_true.mp h3
        rw [Bool.and_eq_true] at i2
        obtain ⟨i2, i3⟩ := i2
        unfold aw_m1 at i3
        simp only [Bool.and_eq_true] at i3
        have i4 := aw_eq_ok K2 i3.2.1
        rw [hsf, f4] at i4
        exact ⟨t', i1, i2, by rw [← Nat.eq_of_beq_eq_true i3.1]; exact f3, i4.symm⟩
      have HT : ae_hp false t.st.k.1 (ap_ρ ρ2 σ) L xs t.st.m (am_mX2 ap_b false h1 h2) := by
        refine ⟨H3.1, ent, fun p j v hp hc => ?_, fun f hfm i hi => ?_⟩
        · rcases H3.2.2.1 p j v hp hc with g | g | g
          · exact Or.inl g
          · exact Or.inr (Or.inl (dyt p j g))
          · exact Or.inr (Or.inr g)
        · rcases H3.2.2.2 f hfm i hi with g | ⟨o, ho, g⟩ | g
          · exact Or.inl g
          · exact Or.inr (Or.inl ⟨o, ho, dyt _ _ g⟩)
          · exact Or.inr (Or.inr g)
      have h6 := ae_z_ok K2 q6
      rw [ae_pls_ev, ae_sub_ev, hsf, ae_ev_ag up.2.1 w1, w2] at h6
      have h7 := ae_z_ok K2 q7
      rw [ae_neg_ev, hsf] at h7
      refine ⟨ap_ρ ρ2 σ, ⟨KT, K0, HT, aw_tm_ok K2 q3 T1, aw_tm_ok K2 q4 T2, S7, S8, S9, _, RI2, ae_fr_rf _ _ _ _, fun m hm => ?_⟩, by omega, by omega, by omega, fun s hs' => ?_⟩
      · rw [ho] at hm; exact absurd hm List.not_mem_nil
      · show ae_ev ρ2 (σ.getD s (ae_num 0)) = ρ s
        rw [hl0 s hs', (ae_sym_dn (n := k2.1) (ρ := ρ2) (s := s) (by have := up.1; omega)).2]
        exact up.2.1 s (by omega)
    · cases q
  · cases q
end AWE
section ABD
variable {G : List am_E → Prop} {L : Nat} {xs : Nat → Int32} {ρ : Nat → Int} {g1 g2 : ap_cT} {h1 h2 : List am_E}
/-- where a walk begins, all that is known is known of old -/
noncomputable def ab_ini (z : ab_St) : ab_St := (z.k, z.m, z.m, [], z.T, z.t1, z.t2)
theorem ab_ini_ok {z : ab_St} (hw : z.w = []) (S : ab_sat G L xs ρ z g1 g2 h1 h2) : ab_sat G L xs ρ (ab_ini z) g1 g2 h1 h2 := by
  obtain ⟨S1, S2, S4, S5, S6, S7, S8, S9, h0, r1, r2, r3⟩ := S
  refine ⟨S1, S2, S4, S5, S6, S7, S8, S9, _, ab_RI_eq (fun p j => ?_) r1, ae_fr_rf _ _ _ _, S4.2.1⟩
  exact ab_cv_fr r2 (by rw [hw]; rfl)
theorem ab_ldz (hr : ae_rok = true) {z : ab_St} (S : ab_sat G L xs ρ z g1 g2 h1 h2) {p j : Nat} {e0 : ae_X} (hd : ae_dn z.k.1 ρ e0 (j : Int)) (hp : 0 < p) (hp2 : p ≤ ae_np) (hj : j < (ae_sh p).2.2) {y : ae_K × List ae_M × List ae_M} (q : ab_ld z.T z.w z.k z.m z.o p e0 = some y) :
    ∃ ρ', ae_up2 ρ z.k ρ' y.1 ∧ ab_sat G L xs ρ' (y.1, y.2.1, y.2.2, z.w, z.T, z.t1, z.t2) g1 g2 h1 h2 := by
  obtain ⟨S1, S2, S4, S5, S6, S7, S8, S9, h0, r1, r2, r3⟩ := S
  obtain ⟨ρ', u, H, O⟩ := ab_ld_ok hr S1 S4 r1 r2 r3 hd hp hp2 hj q
  exact ⟨ρ', u, u.2.2, ae_k0_up S2 u, H, ap_tt_ext u.1 u.2.1 S5, ap_tt_ext u.1 u.2.1 S6, S7, S8, S9, h0, r1, r2, O⟩
end ABD
/-! ahead of a step: the cells that it looks at -/
noncomputable def ab_ra (k : ae_K) (st : List ae_V) : Option (Nat × ae_X) := match st with
  | i :: p :: _ => bif Nat.beq i.1 0 && Nat.beq p.1 2 && Nat.blt 0 p.2.1 && Nat.ble p.2.1 ae_np && ae_rg k i.2.2 0 (((ae_sh p.2.1).2.2 : Int) - 1) then some (p.2.1, i.2.2) else none
  | _ => none
noncomputable def ab_gfl (a b : Nat) (st : List ae_V) : Option (Nat × ae_X) := match st with
  | v :: _ => bif Nat.beq v.1 2 && ae_isO v.2.1 a b then some (v.2.1, ae_num (b : Int)) else none
  | [] => none
noncomputable def ab_cell (k : ae_K) (f : ap_F) : Option (Nat × ae_X) := match am_code f.2.1 f.2.2.1 with
  | some q => (match q.1 with
    | .getfield _ => ab_gfl q.2.1 q.2.2 f.2.2.2.2
    | .iaload => ab_ra k f.2.2.2.2
    | .baload => ab_ra k f.2.2.2.2
    | .laload => ab_ra k f.2.2.2.2
    | _ => none)
  | none => none
noncomputable def ab_pl (z : ab_St) (f : ap_F) : Option ab_St := match ab_cell z.k f with
  | some c => (ab_ld z.T z.w z.k z.m z.o c.1 c.2).bind fun y => some (y.1, y.2.1, y.2.2, z.w, z.T, z.t1, z.t2)
  | none => some z
noncomputable def ab_ps : List ae_Sp → ab_St → Option ab_St
  | [], z => some z
  | s :: r, z => bif Nat.beq s.2.2.1 1 then (bif Nat.blt 0 s.2.2.2.1 && Nat.ble s.2.2.2.1 ae_np && Nat.blt s.2.2.2.2 (ae_sh s.2.2.2.1).2.2 then (ab_ld z.T z.w z.k z.m z.o s.2.2.2.1 (ae_num (s.2.2.2.2 : Int))).bind fun y => ab_ps r (y.1, y.2.1, y.2.2, z.w, z.T, z.t1, z.t2) else none) else ab_ps r z
section ABE
variable {G : List am_E → Prop} {L : Nat} {xs : Nat → Int32} {ρ : Nat → Int} {g1 g2 : ap_cT} {h1 h2 : List am_E}
theorem ab_ra_ok {k : ae_K} (hK : ae_okK ρ k) {st : List ae_V} {sw : List Value} (hs : ae_sr k.1 ρ st sw) {c : Nat × ae_X} (q : ab_ra k st = some c) : ∃ j : Nat, ae_dn k.1 ρ c.2 (j : Int) ∧ 0 < c.1 ∧ c.1 ≤ ae_np ∧ j < (ae_sh c.1).2.2 := by
  unfold ab_ra at q
  split at q
  · rename_i i p r
    obtain ⟨hb, q⟩ := ae_bif q
    cases q
    simp only [Bool.and_eq_true] at hb
    obtain ⟨⟨⟨⟨b1, b2⟩, b3⟩, b4⟩, b5⟩ := hb
    cases sw with
    | nil => exact absurd hs id
    | cons v t =>
      obtain ⟨x, -, d⟩ := ae_ok0 hs.1 b1
      have g := ae_rg_ok hK b5
      rw [d.2] at g
      refine ⟨x.toInt.toNat, ?_, Nat.blt_eq.mp b3, Nat.le_of_ble_eq_true b4, ?_⟩
      · rw [show ((x.toInt.toNat : Nat) : Int) = x.toInt by omega]; exact d
      · show x.toInt.toNat < (ae_sh p.2.1).2.2
        omega
  · cases q
theorem ab_cell_ok {k : ae_K} (hK : ae_okK ρ k) {f : ap_F} {g : am_Fr} (F : ap_f1 k.1 ρ f g) {c : Nat × ae_X} (q : ab_cell k f = some c) : ∃ j : Nat, ae_dn k.1 ρ c.2 (j : Int) ∧ 0 < c.1 ∧ c.1 ≤ ae_np ∧ j < (ae_sh c.1).2.2 := by
  unfold ab_cell at q
  split at q
  · rename_i w hw
    split at q
    · unfold ab_gfl at q
      split at q
      · rename_i v r
        obtain ⟨hb, q⟩ := ae_bif q
        cases q
        rw [Bool.and_eq_true] at hb
        have h2 := hb.2
        unfold ae_isO at h2
        simp only [Bool.and_eq_true] at h2
        exact ⟨w.2.2, ae_num_dn _, Nat.blt_eq.mp h2.1.1.1.1, Nat.le_of_ble_eq_true h2.1.1.1.2, Nat.blt_eq.mp h2.2⟩
      · cases q
    · exact ab_ra_ok hK F.2.2.2.2 q
    · exact ab_ra_ok hK F.2.2.2.2 q
    · exact ab_ra_ok hK F.2.2.2.2 q
    · cases q
  · cases q
theorem ab_pl_ok (hr : ae_rok = true) {z z' : ab_St} (S : ab_sat G L xs ρ z g1 g2 h1 h2) {f : ap_F} {g : am_Fr} (F : ap_f1 z.k.1 ρ f g) (q : ab_pl z f = some z') : ∃ ρ', ae_up2 ρ z.k ρ' z'.k ∧ ab_sat G L xs ρ' z' g1 g2 h1 h2 ∧ z'.t1 = z.t1 ∧ z'.t2 = z.t2 := by
  unfold ab_pl at q
  split at q
  · rename_i c hc
    obtain ⟨y, h1, q⟩ := Option.bind_eq_some_iff.mp q
    cases q
    obtain ⟨j, d, p1, p2, p3⟩ := ab_cell_ok S.1 F hc
    obtain ⟨ρ', u, S'⟩ := ab_ldz hr S d p1 p2 p3 h1
    exact ⟨ρ', u, S', rfl, rfl⟩
  · cases q
    exact ⟨ρ, ⟨Nat.le_refl _, ae_ag_rf _ _, S.1⟩, S, rfl, rfl⟩
theorem ab_ps_ok (hr : ae_rok = true) : ∀ {ss : List ae_Sp} {ρ : Nat → Int} {z z' : ab_St}, ab_sat G L xs ρ z g1 g2 h1 h2 → ab_ps ss z = some z' → ∃ ρ', ae_up2 ρ z.k ρ' z'.k ∧ ab_sat G L xs ρ' z' g1 g2 h1 h2 ∧ z'.t1 = z.t1 ∧ z'.t2 = z.t2
  | [], ρ, z, z', S, q => by cases q; exact ⟨ρ, ⟨Nat.le_refl _, ae_ag_rf _ _, S.1⟩, S, rfl, rfl⟩
  | s :: r, ρ, z, z', S, q => by
    unfold ab_ps at q
    cases hb : Nat.beq s.2.2.1 1 with
    | false => rw [hb] at q; exact ab_ps_ok hr S q
    | true =>
      rw [hb] at q
      obtain ⟨hc, q⟩ := ae_bif (show (bif _ then _ else none) = some z' from q)
      simp only [Bool.and_eq_true] at hc
      obtain ⟨y, h3, q⟩ := Option.bind_eq_some_iff.mp q
      obtain ⟨ρ1, u1, S1⟩ := ab_ldz hr S (ae_num_dn _) (Nat.blt_eq.mp hc.1.1) (Nat.le_of_ble_eq_true hc.1.2) (Nat.blt_eq.mp hc.2) h3
      obtain ⟨ρ2, u2, S2, e1, e2⟩ := ab_ps_ok hr S1 q
      exact ⟨ρ2, u1.tr u2, S2, e1, e2⟩
end ABE
/-! a step, and what it writes -/
noncomputable def ab_wa (k : ae_K) (st : List ae_V) : ae_Mo := match st with
  | _ :: i :: p :: _ => (match ae_lo k i.2.2 with
    | some a => (match ae_hi k i.2.2 with
      | some b => [(p.2.1, a, b)]
      | none => [])
    | none => [])
  | _ => []
noncomputable def ab_wr (P : ap_P) (f : ap_F) (k : ae_K) : ae_Mo := match am_code f.2.1 f.2.2.1 with
  | some q => (match q.1 with
    | .putfield _ => (match f.2.2.2.2 with
      | _ :: p :: _ => [(p.2.1, (q.2.2 : Int), (q.2.2 : Int))]
      | _ => [])
    | .iastore => ab_wa k f.2.2.2.2
    | .bastore => ab_wa k f.2.2.2.2
    | .lastore => ab_wa k f.2.2.2.2
    | _ => bif am_isC q.1 then (bif Nat.beq q.2.1 1004 then (match f.2.2.2.2 with
        | _ :: _ :: t :: _ => [(t.2.1, 0, ((ae_sh t.2.1).2.2 : Int) - 1)]
        | _ => [])
      else bif Nat.ble 1000 q.2.1 then [] else match P.cts.find? fun c => Nat.beq c.1 q.2.1 && ae_fas k c.2.1 (f.2.2.2.2.take (am_pop q.1 q.2.2)).reverse with
        | some c => c.2.2.2.1
        | none => bif P.sps.any fun s => Nat.beq s.1 f.2.1 && Nat.beq s.2.1 f.2.2.1 then (P.cts.filter fun c => Nat.beq c.1 q.2.1).flatMap fun c => c.2.2.2.1 else []) else [])
  | none => []
noncomputable def ab_jn (a b : ae_Mo) : ae_Mo := bif ae_sub2 a b then b else a ++ b
noncomputable def ab_mk (s : Bool) (n : Nat) (w : ae_Mo) (z : ab_St) (o : ap_O) : ab_St := bif s then (ap_kd n o.1, o.2.1, z.o, ab_jn w z.w, z.T, z.t1, o.2.2) else (ap_kd n o.1, o.2.1, z.o, ab_jn w z.w, z.T, o.2.2, z.t2)
noncomputable def ab_stp (W : ab_W) (s : Bool) (z : ab_St) : Option (List ab_St) := match (bif s then z.t2 else z.t1).1 with
  | [] => none
  | f :: fs => (ab_ps (W.p.sps.filter fun q => Nat.beq q.1 f.2.1 && Nat.beq q.2.1 f.2.2.1) z).bind fun z0 => (ab_pl z0 f).bind fun z1 =>
    bif ae_sub2 (ab_wr W.p f z1.k) W.p.mo then (ap_s2 false (ab_wr W.p f z1.k, W.p.cts, W.p.sps) s f fs z1.k z1.m).bind fun l => some (l.map (ab_mk s z1.k.2.2.1.length (ab_wr W.p f z1.k) z1)) else none
theorem ab_jn_ok {a b : ae_Mo} {p j : Nat} (q : ae_inm (ab_jn a b) p j = false) : ae_inm a p j = false ∧ ae_inm b p j = false := by
  unfold ab_jn at q
  cases hb : ae_sub2 a b with
  | true => rw [hb] at q; exact ⟨ae_sub2_ok hb q, q⟩
  | false =>
    rw [hb] at q
    have q : (a ++ b).any (fun r => Nat.beq r.1 p && ae_le r.2.1 (j : Int) && ae_le (j : Int) r.2.2) = false := q
    rw [List.any_append, Bool.or_eq_false_iff] at q
    exact q
noncomputable def ab_al (f : ab_St → Bool) : Option (List ab_St) → Bool
  | some l => l.all f
  | none => false
abbrev ab_Go : Type := Bool → Bool → Bool → ab_St → Bool
noncomputable def ab_w (W : ab_W) (t : ap_T) : Bool := match t.1 with
  | [] => true
  | f :: _ => W.wt f.2.1 f.2.2.1
noncomputable def ab_g1 (W : ab_W) (w0 : ae_X) (ih : ab_Go) : ab_Go := fun f1 f2 nh z =>
  bif !nh && W.hf f1 f2 z then ab_al (ih f1 f2 true) (W.hk z)
  else bif (!f1 && ab_w W z.t1) then
    (bif (!f2 && ab_w W z.t2) then W.tms.any (ab_mt W.r w0 z) || (match W.ov z with
      | some b => ih b.1 b.2 true z
      | none => false)
    else ab_al (ih f1 false false) (ab_stp W true z))
  else ab_al (ih false f2 false) (ab_stp W false z)
noncomputable def ab_go (W : ab_W) (w0 : ae_X) (n : Nat) : ab_Go :=
  Nat.rec (motive := fun _ => ab_Go) (fun _ _ _ _ => false) (fun _ ih => ab_g1 W w0 ih) n
section ABF
variable {W : ab_W} {G : List am_E → Prop} {L : Nat} {xs : Nat → Int32} {Q : Option Value → Option Value → List am_E → List am_E → Prop}
/-- a hook is right -/
noncomputable def ab_HOK (W : ab_W) (G : List am_E → Prop) (L : Nat) (xs : Nat → Int32) (Q : Option Value → Option Value → List am_E → List am_E → Prop) : Prop := ∀ z o ρ g1 g2 h1 h2, W.hk z = some o → ab_sat G L xs ρ z g1 g2 h1 h2 → ∃ z' ∈ o, ∃ ρ' g1' g2' h1' h2', ae_up2 ρ z.k ρ' z'.k ∧ ab_sat G L xs ρ' z' g1' g2' h1' h2' ∧ (ap_end W.mo L xs Q g1' g2' h1' h2' → ap_end W.mo L xs Q g1 g2 h1 h2)
/-- the same where the first symbols are known -/
noncomputable def ab_HOKr (W : ab_W) (G : List am_E → Prop) (L : Nat) (xs : Nat → Int32) (Q : Option Value → Option Value → List am_E → List am_E → Prop) (r0 : Nat → Int) : Prop := ∀ z o ρ g1 g2 h1 h2, W.hk z = some o → ab_sat G L xs ρ z g1 g2 h1 h2 → W.r ≤ z.k.1 → (∀ s, s < W.r → ρ s = r0 s) → ∃ z' ∈ o, ∃ ρ' g1' g2' h1' h2', ae_up2 ρ z.k ρ' z'.k ∧ ab_sat G L xs ρ' z' g1' g2' h1' h2' ∧ (ap_end W.mo L xs Q g1' g2' h1' h2' → ap_end W.mo L xs Q g1 g2 h1 h2)
theorem ab_HOK.r {W : ab_W} {G : List am_E → Prop} {L : Nat} {xs : Nat → Int32} {Q : Option Value → Option Value → List am_E → List am_E → Prop} (h : ab_HOK W G L xs Q) (r0 : Nat → Int) : ab_HOKr W G L xs Q r0 := fun z o ρ g1 g2 h1 h2 a b _ _ => h z o ρ g1 g2 h1 h2 a b
theorem ab_al_ok {f : ab_St → Bool} {o : Option (List ab_St)} (q : ab_al f o = true) : ∃ l, o = some l ∧ ∀ z ∈ l, f z = true := by
  cases o with
  | none => cases q
  | some l => exact ⟨l, rfl, fun z hz => List.all_eq_true.mp q z hz⟩
theorem ab_fr_jn {w v : ae_Mo} {h0 h h' : List am_E} (a : ae_fr v L xs h0 h) (b : ae_fr w L xs h h') : ae_fr (ab_jn w v) L xs h0 h' := fun p j q => (b p j (ab_jn_ok q).1).trans (a p j (ab_jn_ok q).2)
theorem ab_stp_ok (hr : ae_rok = true) (hf : ae_fok = true) (hL : L ≤ 3072) (hct : ∀ c ∈ W.p.cts, ae_CT c) (hmo : ae_sub2 W.p.mo W.mo = true) (hG : ∀ h h', G h → ae_fr W.p.mo L xs h h' → G h') {s : Bool} {z : ab_St} {l : List ab_St} (q : ab_stp W s z = some l) {ρ : Nat → Int} {g1 g2 : ap_cT} {h1 h2 : List am_E} (S : ab_sat G L xs ρ z g1 g2 h1 h2) :
    ∃ z' ∈ l, ∃ ρ' g1' g2' h1' h2', ae_up2 ρ z.k ρ' z'.k ∧ ab_sat G L xs ρ' z' g1' g2' h1' h2' ∧ (ap_end W.mo L xs Q g1' g2' h1' h2' → ap_end W.mo L xs Q g1 g2 h1 h2) := by
  unfold ab_stp at q
  split at q
  · cases q
  · rename_i f fs hfs
    obtain ⟨z0, p1, q⟩ := Option.bind_eq_some_iff.mp q
    obtain ⟨z1, p2, q⟩ := Option.bind_eq_some_iff.mp q
    obtain ⟨hsub, q⟩ := ae_bif q
    obtain ⟨lo, q3, q⟩ := Option.bind_eq_some_iff.mp q
    cases q
    obtain ⟨ρ0, u0, S0, e1, e2⟩ := ab_ps_ok hr S p1
    have frw : ∀ {h h' : List am_E}, ae_fr (ab_wr W.p f z1.k) L xs h h' → ae_fr W.p.mo L xs h h' := fun f' p j hp => f' p j (ae_sub2_ok hsub hp)
    have frm : ∀ {h h' : List am_E}, ae_fr (ab_wr W.p f z1.k) L xs h h' → ae_fr W.mo L xs h h' := fun f' p j hp => f' p j (ae_sub2_ok hsub (ae_sub2_ok hmo hp))
    cases s with
    | false =>
      have hfs : z.t1.1 = f :: fs := hfs
      rw [← e1] at hfs
      have T0 := S0.2.2.2.1
      obtain ⟨gf, gv⟩ := g1
      have T0a := T0.1
      rw [hfs] at T0a
      cases gf with
      | nil => exact absurd T0a id
      | cons g gs =>
        have T0a : ap_f1 z0.k.1 ρ0 f g ∧ ap_ff z0.k.1 ρ0 fs gs := T0a
        obtain ⟨ρ1, u1, S1, e3, e4⟩ := ab_pl_ok hr S0 T0a.1 p2
        obtain ⟨K, K0, H, T1, T2, O1, O2, Gm, h0, r1, r2, r3⟩ := S1
        have T1a := T1.1
        rw [e3, hfs] at T1a
        have T1a : ap_f1 z1.k.1 ρ1 f g ∧ ap_ff z1.k.1 ρ1 fs gs := T1a
        obtain ⟨o1, m1, ρ', g', ho', u, w1, w2, w3, w4, w5, w6, w7⟩ := ap_s2_ok (P := (ab_wr W.p f z1.k, W.p.cts, W.p.sps)) hr hf hL hct q3 K K0 H T1a.1 T1a.2 O1 O2.1.1
        have w4 : ae_fr (ab_wr W.p f z1.k) L xs (am_mX2 ap_b false h1 h2) (am_mX2 ap_b false ho' h2) := w4
        have un : (ap_kd z1.k.2.2.1.length o1.1).1 = o1.1.1 := ap_kd_n _ _
        have ut := (u0.tr u1).tr u
        refine ⟨_, List.mem_map.mpr ⟨o1, m1, rfl⟩, ρ', g', g2, ho', h2, ⟨by show z.k.1 ≤ (ap_kd z1.k.2.2.1.length o1.1).1; rw [un]; exact ut.1, ut.2.1, ap_kd_ok ut.2.2⟩, ⟨ap_kd_ok u.2.2, ⟨⟨by show 0 < (ap_kd z1.k.2.2.1.length o1.1).1; rw [un]; exact w1.1.1, w1.1.2⟩, w1.2⟩, ?_, ?_, ?_, w6, O2, hG _ _ Gm (frw w4), ?_⟩, fun e => ap_end_1 (frm w4) w5 (fun x hx => w7 x hx) e⟩
        · show ae_hp false (ap_kd z1.k.2.2.1.length o1.1).1 ρ' L xs o1.2.1 (am_mX2 ap_b false ho' h2)
          rw [un]; exact w2
        · show ap_tt (ap_kd z1.k.2.2.1.length o1.1).1 ρ' o1.2.2 g'
          rw [un]; exact w3
        · show ap_tt (ap_kd z1.k.2.2.1.length o1.1).1 ρ' z1.t2 g2
          rw [un]; exact ap_tt_ext u.1 u.2.1 T2
        · show ab_old (ap_kd z1.k.2.2.1.length o1.1).1 ρ' L xs z1.o (ab_jn (ab_wr W.p f z1.k) z1.w) z1.T (am_mX2 ap_b false ho' h2)
          rw [un]
          exact ⟨h0, r1, ab_fr_jn r2 w4, fun m hm => ae_eo_ext u.1 u.2.1 (r3 m hm)⟩
    | true =>
      have hfs : z.t2.1 = f :: fs := hfs
      rw [← e2] at hfs
      have T0 := S0.2.2.2.2.1
      obtain ⟨gf, gv⟩ := g2
      have T0a := T0.1
      rw [hfs] at T0a
      cases gf with
      | nil => exact absurd T0a id
      | cons g gs =>
        have T0a : ap_f1 z0.k.1 ρ0 f g ∧ ap_ff z0.k.1 ρ0 fs gs := T0a
        obtain ⟨ρ1, u1, S1, e3, e4⟩ := ab_pl_ok hr S0 T0a.1 p2
        obtain ⟨K, K0, H, T1, T2, O1, O2, Gm, h0, r1, r2, r3⟩ := S1
        have T2a := T2.1
        rw [e4, hfs] at T2a
        have T2a : ap_f1 z1.k.1 ρ1 f g ∧ ap_ff z1.k.1 ρ1 fs gs := T2a
        have H' : ae_hp false z1.k.1 ρ1 L xs z1.m (am_mX2 ap_b true h2 h1) := by rw [ap_mX_not]; exact H
        obtain ⟨o1, m1, ρ', g', ho', u, w1, w2, w3, w4, w5, w6, w7⟩ := ap_s2_ok (P := (ab_wr W.p f z1.k, W.p.cts, W.p.sps)) hr hf hL hct q3 K K0 H' T2a.1 T2a.2 O2 O1.1.1
        rw [ap_mX_not] at w2
        rw [ap_mX_not ap_b true, ap_mX_not ap_b true] at w4
        have w4 : ae_fr (ab_wr W.p f z1.k) L xs (am_mX2 ap_b false h1 h2) (am_mX2 ap_b false h1 ho') := w4
        have un : (ap_kd z1.k.2.2.1.length o1.1).1 = o1.1.1 := ap_kd_n _ _
        have ut := (u0.tr u1).tr u
        refine ⟨_, List.mem_map.mpr ⟨o1, m1, rfl⟩, ρ', g1, g', h1, ho', ⟨by show z.k.1 ≤ (ap_kd z1.k.2.2.1.length o1.1).1; rw [un]; exact ut.1, ut.2.1, ap_kd_ok ut.2.2⟩, ⟨ap_kd_ok u.2.2, ⟨⟨by show 0 < (ap_kd z1.k.2.2.1.length o1.1).1; rw [un]; exact w1.1.1, w1.1.2⟩, w1.2⟩, ?_, ?_, ?_, O1, w6, hG _ _ Gm (frw w4), ?_⟩, fun e => ap_end_2 (frm w4) w5 (fun x hx => w7 x hx) e⟩
        · show ae_hp false (ap_kd z1.k.2.2.1.length o1.1).1 ρ' L xs o1.2.1 (am_mX2 ap_b false h1 ho')
          rw [un]; exact w2
        · show ap_tt (ap_kd z1.k.2.2.1.length o1.1).1 ρ' z1.t1 g1
          rw [un]; exact ap_tt_ext u.1 u.2.1 T1
        · show ap_tt (ap_kd z1.k.2.2.1.length o1.1).1 ρ' o1.2.2 g'
          rw [un]; exact w3
        · show ab_old (ap_kd z1.k.2.2.1.length o1.1).1 ρ' L xs z1.o (ab_jn (ab_wr W.p f z1.k) z1.w) z1.T (am_mX2 ap_b false h1 ho')
          rw [un]
          exact ⟨h0, r1, ab_fr_jn r2 w4, fun m hm => ae_eo_ext u.1 u.2.1 (r3 m hm)⟩
theorem ab_go_ok (hr : ae_rok = true) (hf : ae_fok = true) (hL : L ≤ 3072) (hct : ∀ c ∈ W.p.cts, ae_CT c) (hmo : ae_sub2 W.p.mo W.mo = true) (hG : ∀ h h', G h → ae_fr W.p.mo L xs h h' → G h') {r0 : Nat → Int} (hH : ab_HOKr W G L xs Q r0) {w0 : ae_X} {W0 : Int}
    (IH : ∀ t ∈ W.tms, ∀ ρ g1 g2 h1 h2, ab_sat G L xs ρ t.st g1 g2 h1 h2 → W.r ≤ t.st.k.1 → (∀ s, s < W.r → ρ s = r0 s) → 0 ≤ ae_ev ρ t.rk → ae_ev ρ t.rk < W0 → ap_end W.mo L xs Q g1 g2 h1 h2) :
    ∀ (n : Nat) (f1 f2 nh : Bool) (z : ab_St), ab_go W w0 n f1 f2 nh z = true → ∀ ρ g1 g2 h1 h2, ab_sat G L xs ρ z g1 g2 h1 h2 → W.r ≤ z.k.1 → (∀ s, s < W.r → ρ s = r0 s) → ae_wt z.k.1 w0.2 → ae_ev ρ w0 = W0 → ap_end W.mo L xs Q g1 g2 h1 h2 := by
  intro n
  induction n with
  | zero => intro f1 f2 nh z q; cases q
  | succ n ih =>
    intro f1 f2 nh z q ρ g1 g2 h1 h2 S s1 s2 w1 w2
    have q : ab_g1 W w0 (ab_go W w0 n) f1 f2 nh z = true := q
    have on : ∀ {a b c : Bool} {l : List ab_St}, (∀ z ∈ l, ab_go W w0 n a b c z = true) → (∃ z' ∈ l, ∃ ρ' g1' g2' h1' h2', ae_up2 ρ z.k ρ' z'.k ∧ ab_sat G L xs ρ' z' g1' g2' h1' h2' ∧ (ap_end W.mo L xs Q g1' g2' h1' h2' → ap_end W.mo L xs Q g1 g2 h1 h2)) → ap_end W.mo L xs Q g1 g2 h1 h2 := by
      intro a b c l hl ⟨z', m, ρ', g1', g2', h1', h2', u, S', fin⟩
      exact fin (ih a b c z' (hl z' m) ρ' g1' g2' h1' h2' S' (Nat.le_trans s1 u.1) (fun s hs => (u.2.1 s (by omega)).trans (s2 s hs)) (ae_wt_le u.1 w1) (by rw [ae_ev_ag u.2.1 w1]; exact w2))
    unfold ab_g1 at q
    cases hA : (!nh && W.hf f1 f2 z) with
    | true =>
      rw [hA] at q
      obtain ⟨l, e, q⟩ := ab_al_ok q
      exact on q (hH z l ρ g1 g2 h1 h2 e S s1 s2)
    | false =>
      rw [hA] at q
      cases hB : (!f1 && ab_w W z.t1) with
      | false =>
        rw [hB] at q
        obtain ⟨l, e, q⟩ := ab_al_ok q
        exact on q (ab_stp_ok hr hf hL hct hmo hG e S)
      | true =>
        rw [hB] at q
        cases hC : (!f2 && ab_w W z.t2) with
        | false =>
          rw [hC] at q
          obtain ⟨l, e, q⟩ := ab_al_ok q
          exact on q (ab_stp_ok hr hf hL hct hmo hG e S)
        | true =>
          rw [hC] at q
          rcases Bool.or_eq_true_iff.mp q with q | q
          · obtain ⟨t, ht, q⟩ := List.any_eq_true.mp q
            obtain ⟨ρ', S', r1, r2, r3, r4⟩ := ab_mt_ok hr hf q S s1 w1 w2
            exact IH t ht ρ' g1 g2 h1 h2 S' r3 (fun s hs => (r4 s hs).trans (s2 s hs)) r1 r2
          · split at q
            · exact ih _ _ _ z q ρ g1 g2 h1 h2 S s1 s2 w1 w2
            · cases q
/-- all meeting points at once: each leads to others of less rank, or is an end -/
noncomputable def ab_chk (W : ab_W) (n : Nat) (f1 f2 : Bool) (t : ab_Tm) : Bool := ab_nl t.st.w && ae_wb t.st.k.1 t.rk.2 && ab_go W t.rk n f1 f2 false (ab_ini t.st)
noncomputable def ab_ok (W : ab_W) (G : List am_E → Prop) (L : Nat) (xs : Nat → Int32) (Q : Option Value → Option Value → List am_E → List am_E → Prop) (r0 : Nat → Int) (t : ab_Tm) : Prop := ∀ ρ g1 g2 h1 h2, ab_sat G L xs ρ t.st g1 g2 h1 h2 → W.r ≤ t.st.k.1 → (∀ s, s < W.r → ρ s = r0 s) → ap_end W.mo L xs Q g1 g2 h1 h2
theorem ab_allr (hr : ae_rok = true) (hf : ae_fok = true) (hL : L ≤ 3072) (hct : ∀ c ∈ W.p.cts, ae_CT c) (hmo : ae_sub2 W.p.mo W.mo = true) (hG : ∀ h h', G h → ae_fr W.p.mo L xs h h' → G h') {r0 : Nat → Int} (hH : ab_HOKr W G L xs Q r0)
    (hT : ∀ t ∈ W.tms, (∃ n f1 f2, ab_chk W n f1 f2 t = true) ∨ ab_ok W G L xs Q r0 t) : ∀ t ∈ W.tms, ab_ok W G L xs Q r0 t := by
  have one : ∀ (t : ab_Tm) (n : Nat) (f1 f2 : Bool) (W0 : Int), ab_chk W n f1 f2 t = true → ∀ ρ g1 g2 h1 h2, ab_sat G L xs ρ t.st g1 g2 h1 h2 → W.r ≤ t.st.k.1 → (∀ s, s < W.r → ρ s = r0 s) → ae_ev ρ t.rk = W0 →
      (∀ t' ∈ W.tms, ∀ ρ g1 g2 h1 h2, ab_sat G L xs ρ t'.st g1 g2 h1 h2 → W.r ≤ t'.st.k.1 → (∀ s, s < W.r → ρ s = r0 s) → 0 ≤ ae_ev ρ t'.rk → ae_ev ρ t'.rk < W0 → ap_end W.mo L xs Q g1 g2 h1 h2) → ap_end W.mo L xs Q g1 g2 h1 h2 := by
    intro t n f1 f2 W0 q ρ g1 g2 h1 h2 S s1 s2 e IH
    unfold ab_chk at q
    rw [Bool.and_eq_true, Bool.and_eq_true] at q
    exact ab_go_ok hr hf hL hct hmo hG hH (W0 := W0) (r0 := r0) IH n f1 f2 false (ab_ini t.st) q.2 ρ g1 g2 h1 h2 (ab_ini_ok (ab_nl_ok q.1.1) S) s1 s2 (ae_wb_ok q.1.2) e
  have key : ∀ (N : Nat) (t : ab_Tm), t ∈ W.tms → ∀ ρ g1 g2 h1 h2, ab_sat G L xs ρ t.st g1 g2 h1 h2 → W.r ≤ t.st.k.1 → (∀ s, s < W.r → ρ s = r0 s) → ae_ev ρ t.rk < (N : Int) → ap_end W.mo L xs Q g1 g2 h1 h2 := by
    intro N
    induction N with
    | zero =>
      intro t ht ρ g1 g2 h1 h2 S s1 s2 hN
      rcases hT t ht with ⟨n, f1, f2, q⟩ | q
      · exact one t n f1 f2 _ q ρ g1 g2 h1 h2 S s1 s2 rfl (fun t' _ ρ' _ _ _ _ _ _ _ r1 r2 => by omega)
      · exact q ρ g1 g2 h1 h2 S s1 s2
    | succ N ih =>
      intro t ht ρ g1 g2 h1 h2 S s1 s2 hN
      rcases hT t ht with ⟨n, f1, f2, q⟩ | q
      · exact one t n f1 f2 _ q ρ g1 g2 h1 h2 S s1 s2 rfl (fun t' ht' ρ' g1' g2' h1' h2' S' s1' s2' r1 r2 => ih t' ht' ρ' g1' g2' h1' h2' S' s1' s2' (by omega))
      · exact q ρ g1 g2 h1 h2 S s1 s2
  exact fun t ht ρ g1 g2 h1 h2 S s1 s2 => key ((ae_ev ρ t.rk).toNat + 1) t ht ρ g1 g2 h1 h2 S s1 s2 (by omega)
theorem ab_all (hr : ae_rok = true) (hf : ae_fok = true) (hL : L ≤ 3072) (hct : ∀ c ∈ W.p.cts, ae_CT c) (hmo : ae_sub2 W.p.mo W.mo = true) (hG : ∀ h h', G h → ae_fr W.p.mo L xs h h' → G h') (hH : ab_HOK W G L xs Q) {r0 : Nat → Int}
    (hT : ∀ t ∈ W.tms, (∃ n f1 f2, ab_chk W n f1 f2 t = true) ∨ ab_ok W G L xs Q r0 t) : ∀ t ∈ W.tms, ab_ok W G L xs Q r0 t :=
  ab_allr hr hf hL hct hmo hG (hH.r r0) hT
end ABF

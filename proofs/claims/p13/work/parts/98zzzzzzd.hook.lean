/-! Hooks put together out of small ones -/
abbrev bh_H : Type := ab_St → Option (List ab_St)
noncomputable def bh_ok (mo : ae_Mo) (G : List am_E → Prop) (L : Nat) (xs : Nat → Int32) (Q : Option Value → Option Value → List am_E → List am_E → Prop) (R : Nat) (r0 : Nat → Int) (h : bh_H) : Prop := ∀ z o ρ g1 g2 h1 h2, h z = some o → ab_sat G L xs ρ z g1 g2 h1 h2 → R ≤ z.k.1 → (∀ s, s < R → ρ s = r0 s) → ∃ z' ∈ o, ∃ ρ' g1' g2' h1' h2', ae_up2 ρ z.k ρ' z'.k ∧ ab_sat G L xs ρ' z' g1' g2' h1' h2' ∧ (ap_end mo L xs Q g1' g2' h1' h2' → ap_end mo L xs Q g1 g2 h1 h2)
noncomputable def bh_no : bh_H := fun _ => none
noncomputable def bh_id : bh_H := fun z => some [z]
noncomputable def bh_if (c : ab_St → Bool) (a b : bh_H) : bh_H := fun z => bif c z then a z else b z
noncomputable def bh_fl (h : bh_H) : List ab_St → Option (List ab_St)
  | [] => some []
  | z :: r => (h z).bind fun a => (bh_fl h r).bind fun b => some (a ++ b)
noncomputable def bh_bd (a b : bh_H) : bh_H := fun z => (a z).bind (bh_fl b)
/-! what a hook looks at -/
abbrev bh_X : Type := ab_St → Option ae_X
noncomputable def bh_fr (a : Bool) (z : ab_St) : Option ap_F := match (bif a then z.t2 else z.t1).1 with
  | f :: _ => some f
  | [] => none
noncomputable def bh_num (v : ae_V) : Option ae_X := bif Nat.blt v.1 2 then some v.2.2 else none
noncomputable def bh_lo (a : Bool) (l : Nat) : bh_X := fun z => (bh_fr a z).bind fun f => (ae_lg f.2.2.2.1 l).bind bh_num
noncomputable def bh_at : List ae_V → Nat → Option ae_V
  | [], _ => none
  | v :: _, 0 => some v
  | _ :: r, i + 1 => bh_at r i
noncomputable def bh_sk (a : Bool) (i : Nat) : bh_X := fun z => (bh_fr a z).bind fun f => (bh_at f.2.2.2.2 i).bind bh_num
noncomputable def bh_cl (c : ab_St → Option (Nat × ae_X)) : bh_X := fun z => (c z).bind fun q => ab_ov z.k z.m q.1 q.2
noncomputable def bh_cd (c : ab_St → Option (Nat × ae_X)) : bh_X := fun z => (c z).bind fun q => (ae_fd z.m q.1 (ae_nr z.k q.2)).bind fun m => bh_num m.2.2.1
noncomputable def bh_df (x y : bh_X) : bh_X := fun z => (x z).bind fun a => (y z).bind fun b => some (ae_sub a b)
/-- a field of the object on the stack -/
noncomputable def bh_ob (a : Bool) (i j : Nat) (z : ab_St) : Option (Nat × ae_X) := (bh_fr a z).bind fun f => (bh_at f.2.2.2.2 i).bind fun v => bif Nat.beq v.1 2 then some (v.2.1, ae_num (j : Int)) else none
noncomputable def bh_ol (a : Bool) (l j : Nat) (z : ab_St) : Option (Nat × ae_X) := (bh_fr a z).bind fun f => (ae_lg f.2.2.2.1 l).bind fun v => bif Nat.beq v.1 2 then some (v.2.1, ae_num (j : Int)) else none
noncomputable def bh_kc (x : bh_X) (z : ab_St) : Bool := match x z with
  | some e => ae_kc (ae_nr z.k e)
  | none => true
/-! the small ones -/
noncomputable def bh_ks (z : ab_St) (ks : List ae_K) : List ab_St := ks.map fun k => ((k, z.2) : ab_St)
/-- by sign -/
noncomputable def bh_s (x : bh_X) : bh_H := fun z => (x z).bind fun e => bif ae_wb z.k.1 e.2 then some (bh_ks z (ah_sg z.k e)) else none
/-- by value -/
noncomputable def bh_v (x : bh_X) : bh_H := fun z => (x z).bind fun e => bif ae_wb z.k.1 (ae_nr z.k e).2 then (ah_vs z.k (ae_nr z.k e)).map (bh_ks z) else none
/-- less, alike, more -/
noncomputable def bh_t (x : bh_X) : bh_H := fun z => (x z).bind fun e => bif ae_wb z.k.1 e.2 then some (bh_ks z (ae_as z.k (ae_pls e 1) ++ ae_ask z.k [e, ae_neg e 0] ++ ae_as z.k (ae_neg e 1))) else none
/-- a cell is looked at -/
noncomputable def bh_l (c : ab_St → Option (Nat × ae_X)) : bh_H := fun z => (c z).bind fun q => bif ae_wb z.k.1 q.2.2 && Nat.blt 0 q.1 && Nat.ble q.1 ae_np && ae_rg z.k q.2 0 (((ae_sh q.1).2.2 : Int) - 1) then (ab_ld z.T z.w z.k z.m z.o q.1 q.2).bind fun y => some [(y.1, y.2.1, y.2.2, z.w, z.T, z.t1, z.t2)] else none
/-- what the invariants say of a cell -/
noncomputable def bh_f (c : ab_St → Option (Nat × ae_X)) : bh_H := fun z => (c z).bind fun q => bif ae_wb z.k.1 q.2.2 && ae_rg z.k q.2 0 (((ae_sh q.1).2.2 : Int) - 1) then some (bh_ks z (ae_fks false z.k z.m q.1 q.2)) else none
/-- none of a tie's conditions can hold: this can't be -/
noncomputable def bh_d (c : ab_St → Option (Nat × ae_X)) : bh_H := fun z => (c z).bind fun q => bif ae_wb z.k.1 q.2.2 && ae_rg z.k q.2 0 4000 && z.T.any (fun t => ab_isR t && (match ab_ix z.k q.1 q.2 t with
  | some i => t.2.2.2.2.1.all (ab_gf z.k z.o i)
  | none => false)) then some [] else none
/-- a list of values; what else there is between them is left to another -/
noncomputable def bh_vl (x : bh_X) (b : bh_H) : List Int → bh_H
  | [] => b
  | v :: r => fun z => (x z).bind fun e => bif ae_wb z.k.1 e.2 then
      (bh_fl b (bh_ks z (ae_as z.k (ae_pls e (1 - v))))).bind fun l1 => (bh_fl (bh_vl x b r) (bh_ks z (ae_as z.k (ae_neg e (v + 1))))).bind fun l2 => some (bh_ks z (ae_ask z.k [ae_pls e (-v), ae_neg e v]) ++ l1 ++ l2)
    else none
section BHA
variable {mo : ae_Mo} {G : List am_E → Prop} {L : Nat} {xs : Nat → Int32} {Q : Option Value → Option Value → List am_E → List am_E → Prop} {R : Nat} {r0 : Nat → Int}
theorem bh_HOK {W : ab_W} (h : bh_ok W.mo G L xs Q W.r r0 W.hk) : ab_HOKr W G L xs Q r0 := h
theorem bh_no_ok : bh_ok mo G L xs Q R r0 bh_no := fun _ _ _ _ _ _ _ q => by cases q
theorem bh_id_ok : bh_ok mo G L xs Q R r0 bh_id := fun z o ρ g1 g2 h1 h2 q S _ _ => by
  cases q
  exact ⟨z, List.mem_singleton.mpr rfl, ρ, g1, g2, h1, h2, ⟨Nat.le_refl _, ae_ag_rf _ _, S.1⟩, S, id⟩
theorem bh_if_ok {c : ab_St → Bool} {a b : bh_H} (ha : bh_ok mo G L xs Q R r0 a) (hb : bh_ok mo G L xs Q R r0 b) : bh_ok mo G L xs Q R r0 (bh_if c a b) := fun z o ρ g1 g2 h1 h2 q S s1 s2 => by
  unfold bh_if at q
  cases hc : c z with
  | true => rw [hc] at q; exact ha z o ρ g1 g2 h1 h2 q S s1 s2
  | false => rw [hc] at q; exact hb z o ρ g1 g2 h1 h2 q S s1 s2
theorem bh_fl_at {h : bh_H} : ∀ {l : List ab_St} {o : List ab_St}, bh_fl h l = some o → ∀ z ∈ l, ∃ o', h z = some o' ∧ ∀ y ∈ o', y ∈ o
  | [], _, _, _, hz => absurd hz List.not_mem_nil
  | x :: r, o, q, z, hz => by
    obtain ⟨a, q1, q⟩ := Option.bind_eq_some_iff.mp q
    obtain ⟨b, q2, q⟩ := Option.bind_eq_some_iff.mp q
    cases q
    rcases List.mem_cons.mp hz with rfl | hz
    · exact ⟨a, q1, fun y hy => List.mem_append_left _ hy⟩
    · obtain ⟨o', e1, e2⟩ := bh_fl_at q2 z hz
      exact ⟨o', e1, fun y hy => List.mem_append_right _ (e2 y hy)⟩
theorem bh_bd_ok {a b : bh_H} (ha : bh_ok mo G L xs Q R r0 a) (hb : bh_ok mo G L xs Q R r0 b) : bh_ok mo G L xs Q R r0 (bh_bd a b) := fun z o ρ g1 g2 h1 h2 q S s1 s2 => by
  obtain ⟨l, q1, q2⟩ := Option.bind_eq_some_iff.mp q
  obtain ⟨z', m, ρ', g1', g2', h1', h2', u, S', fin⟩ := ha z l ρ g1 g2 h1 h2 q1 S s1 s2
  obtain ⟨o', q3, q4⟩ := bh_fl_at q2 z' m
  obtain ⟨z2, m2, ρ2, g3, g4, h3, h4, u2, S2, fin2⟩ := hb z' o' ρ' g1' g2' h1' h2' q3 S' (Nat.le_trans s1 u.1) (fun s hs => (u.2.1 s (by omega)).trans (s2 s hs))
  exact ⟨z2, q4 z2 m2, ρ2, g3, g4, h3, h4, u.tr u2, S2, fun e => fin (fin2 e)⟩
theorem bh_ks_ok {z : ab_St} {ρ : Nat → Int} {g1 g2 : ap_cT} {h1 h2 : List am_E} {ks : List ae_K} (S : ab_sat G L xs ρ z g1 g2 h1 h2) (hk : ∃ k' ∈ ks, ae_okK ρ k' ∧ k'.1 = z.k.1) : ∃ z' ∈ bh_ks z ks, ab_sat G L xs ρ z' g1 g2 h1 h2 ∧ ae_up2 ρ z.k ρ z'.k ∧ z'.k.1 = z.k.1 := by
  obtain ⟨k', m, K, n⟩ := hk
  obtain ⟨S', u⟩ := ah_k S K n
  exact ⟨_, List.mem_map.mpr ⟨k', m, rfl⟩, S', u, n⟩
theorem bh_ks_o {z : ab_St} {ρ : Nat → Int} {g1 g2 : ap_cT} {h1 h2 : List am_E} {ks : List ae_K} {o : List ab_St} (ho : ∀ y ∈ bh_ks z ks, y ∈ o) (S : ab_sat G L xs ρ z g1 g2 h1 h2) (hk : ∃ k' ∈ ks, ae_okK ρ k' ∧ k'.1 = z.k.1) : ∃ z' ∈ o, ∃ ρ' g1' g2' h1' h2', ae_up2 ρ z.k ρ' z'.k ∧ ab_sat G L xs ρ' z' g1' g2' h1' h2' ∧ (ap_end mo L xs Q g1' g2' h1' h2' → ap_end mo L xs Q g1 g2 h1 h2) := by
  obtain ⟨z', m, S', u, -⟩ := bh_ks_ok S hk
  exact ⟨z', ho z' m, ρ, g1, g2, h1, h2, u, S', id⟩
theorem bh_s_ok {x : bh_X} : bh_ok mo G L xs Q R r0 (bh_s x) := fun z o ρ g1 g2 h1 h2 q S _ _ => by
  obtain ⟨e, -, q⟩ := Option.bind_eq_some_iff.mp q
  obtain ⟨hw, q⟩ := ae_bif q
  cases q
  exact bh_ks_o (fun _ h => h) S (ah_sg_ok S.1 (ae_wb_ok hw))
theorem bh_v_ok {x : bh_X} : bh_ok mo G L xs Q R r0 (bh_v x) := fun z o ρ g1 g2 h1 h2 q S _ _ => by
  obtain ⟨e, -, q⟩ := Option.bind_eq_some_iff.mp q
  obtain ⟨hw, q⟩ := ae_bif q
  cases hv : ah_vs z.k (ae_nr z.k e) with
  | none => rw [hv] at q; cases q
  | some ks =>
    rw [hv] at q
    cases q
    exact bh_ks_o (fun _ h => h) S (ah_vs_ok S.1 (ae_wb_ok hw) hv)
theorem bh_t3 {ρ : Nat → Int} {k : ae_K} (K : ae_okK ρ k) {e : ae_X} (w : ae_wt k.1 e.2) : ∃ k' ∈ ae_as k (ae_pls e 1) ++ ae_ask k [e, ae_neg e 0] ++ ae_as k (ae_neg e 1), ae_okK ρ k' ∧ k'.1 = k.1 := by
  have d : ae_dn k.1 ρ e (ae_ev ρ e) := ⟨w, rfl⟩
  rcases Int.lt_trichotomy (ae_ev ρ e) 0 with h | h | h
  · obtain ⟨k', m, a⟩ := ae_as_ok K (ae_pls_dn d 1) (by omega)
    exact ⟨k', List.mem_append_left _ (List.mem_append_left _ m), a⟩
  · obtain ⟨k', m, a⟩ := ae_ask_ok (es := [e, ae_neg e 0]) K (fun y hy => by
      rcases List.mem_cons.mp hy with rfl | hy
      · exact ⟨w, by omega⟩
      · rw [List.mem_singleton.mp hy]
        have d2 := ae_neg_dn d 0
        exact ⟨d2.1, by rw [d2.2]; omega⟩)
    exact ⟨k', List.mem_append_left _ (List.mem_append_right _ m), a⟩
  · obtain ⟨k', m, a⟩ := ae_as_ok K (ae_neg_dn d 1) (by omega)
    exact ⟨k', List.mem_append_right _ m, a⟩
theorem bh_t_ok {x : bh_X} : bh_ok mo G L xs Q R r0 (bh_t x) := fun z o ρ g1 g2 h1 h2 q S _ _ => by
  obtain ⟨e, -, q⟩ := Option.bind_eq_some_iff.mp q
  obtain ⟨hw, q⟩ := ae_bif q
  cases q
  exact bh_ks_o (fun _ h => h) S (bh_t3 S.1 (ae_wb_ok hw))
theorem bh_l_ok (hr : ae_rok = true) {c : ab_St → Option (Nat × ae_X)} : bh_ok mo G L xs Q R r0 (bh_l c) := fun z o ρ g1 g2 h1 h2 q S _ _ => by
  obtain ⟨⟨p, e⟩, -, q⟩ := Option.bind_eq_some_iff.mp q
  obtain ⟨hb, q⟩ := ae_bif q
  simp only [Bool.and_eq_true] at hb
  obtain ⟨⟨⟨b1, b2⟩, b3⟩, b4⟩ := hb
  obtain ⟨y, q1, q⟩ := Option.bind_eq_some_iff.mp q
  cases q
  have g := ae_rg_ok S.1 b4
  obtain ⟨ρ', u, S'⟩ := ab_ldz hr S (p := p) (j := (ae_ev ρ e).toNat) (e0 := e) ⟨ae_wb_ok b1, by show ae_ev ρ e = _; omega⟩ (Nat.blt_eq.mp b2) (Nat.le_of_ble_eq_true b3) (by show (ae_ev ρ e).toNat < (ae_sh p).2.2; have g1 := g.1; have g2 := g.2; change 0 ≤ ae_ev ρ e at g1; change ae_ev ρ e ≤ ((ae_sh p).2.2 : Int) - 1 at g2; omega) q1
  exact ⟨_, List.mem_singleton.mpr rfl, ρ', g1, g2, h1, h2, u, S', id⟩
theorem bh_f_ok (hf : ae_fok = true) {c : ab_St → Option (Nat × ae_X)} : bh_ok mo G L xs Q R r0 (bh_f c) := fun z o ρ g1 g2 h1 h2 q S _ _ => by
  obtain ⟨⟨p, e⟩, -, q⟩ := Option.bind_eq_some_iff.mp q
  obtain ⟨hb, q⟩ := ae_bif q
  rw [Bool.and_eq_true] at hb
  cases q
  have g := ae_rg_ok S.1 hb.2
  have g1' := g.1
  change 0 ≤ ae_ev ρ e at g1'
  exact bh_ks_o (fun _ h => h) S (ae_fks_ok hf (p := p) (j := (ae_ev ρ e).toNat) (e := e) ⟨ae_wb_ok hb.1, by omega⟩ S.1 S.2.2.1)
theorem bh_d_ok {c : ab_St → Option (Nat × ae_X)} : bh_ok mo G L xs Q R r0 (bh_d c) := fun z o ρ g1 g2 h1 h2 q S _ _ => by
  obtain ⟨⟨p, e⟩, -, q⟩ := Option.bind_eq_some_iff.mp q
  obtain ⟨hb, q⟩ := ae_bif q
  simp only [Bool.and_eq_true] at hb
  obtain ⟨⟨b1, b2⟩, b3⟩ := hb
  obtain ⟨t, ht, b4⟩ := List.any_eq_true.mp b3
  rw [Bool.and_eq_true] at b4
  obtain ⟨b4, b5⟩ := b4
  have g := ae_rg_ok S.1 b2
  have g1' := g.1
  change 0 ≤ ae_ev ρ e at g1'
  obtain ⟨S1, -, -, -, -, -, -, -, h0, r1, -, r3⟩ := S
  split at b5
  · rename_i i hi
    obtain ⟨-, i0, -, i2, di⟩ := ab_ix_ok S1 (e := e) (j := (ae_ev ρ e).toNat) ⟨ae_wb_ok b1, by omega⟩ hi
    obtain ⟨g', m', e'⟩ := ab_isR_ok b4 (r1 t ht i0 i2)
    exact absurd e' (ab_gf_ok S1 r3 di (List.all_eq_true.mp b5 g' m'))
  · cases b5
theorem bh_vl_ok {x : bh_X} {b : bh_H} (hb : bh_ok mo G L xs Q R r0 b) : ∀ l : List Int, bh_ok mo G L xs Q R r0 (bh_vl x b l)
  | [] => hb
  | v :: r => fun z o ρ g1 g2 h1 h2 q S s1 s2 => by
    obtain ⟨e, -, q⟩ := Option.bind_eq_some_iff.mp (show ((x z).bind fun e => bif ae_wb z.k.1 e.2 then
      (bh_fl b (bh_ks z (ae_as z.k (ae_pls e (1 - v))))).bind fun l1 => (bh_fl (bh_vl x b r) (bh_ks z (ae_as z.k (ae_neg e (v + 1))))).bind fun l2 => some (bh_ks z (ae_ask z.k [ae_pls e (-v), ae_neg e v]) ++ l1 ++ l2)
      else none) = some o from q)
    obtain ⟨hw, q⟩ := ae_bif q
    obtain ⟨l1, q1, q⟩ := Option.bind_eq_some_iff.mp q
    obtain ⟨l2, q2, q⟩ := Option.bind_eq_some_iff.mp q
    cases q
    have d : ae_dn z.k.1 ρ e (ae_ev ρ e) := ⟨ae_wb_ok hw, rfl⟩
    have on : ∀ {a : bh_H} {ks : List ae_K} {l : List ab_St}, bh_ok mo G L xs Q R r0 a → bh_fl a (bh_ks z ks) = some l → (∃ k' ∈ ks, ae_okK ρ k' ∧ k'.1 = z.k.1) → ∃ z' ∈ l, ∃ ρ' g1' g2' h1' h2', ae_up2 ρ z.k ρ' z'.k ∧ ab_sat G L xs ρ' z' g1' g2' h1' h2' ∧ (ap_end mo L xs Q g1' g2' h1' h2' → ap_end mo L xs Q g1 g2 h1 h2) := by
      intro a ks l ha ql hk
      obtain ⟨z1, m1, S', u, n⟩ := bh_ks_ok S hk
      obtain ⟨o', e1, e2⟩ := bh_fl_at ql z1 m1
      obtain ⟨z2, m2, ρ2, g3, g4, h3, h4, u2, S2, fin⟩ := ha z1 o' ρ g1 g2 h1 h2 e1 S' (by rw [n]; exact s1) s2
      exact ⟨z2, e2 z2 m2, ρ2, g3, g4, h3, h4, u.tr u2, S2, fin⟩
    rcases Int.lt_trichotomy (ae_ev ρ e) v with h | h | h
    · obtain ⟨z', m, rest⟩ := on hb q1 (ae_as_ok S.1 (ae_pls_dn d (1 - v)) (by omega))
      exact ⟨z', List.mem_append_left _ (List.mem_append_right _ m), rest⟩
    · exact bh_ks_o (fun _ hy => List.mem_append_left _ (List.mem_append_left _ hy)) S (ae_ask_ok (es := [ae_pls e (-v), ae_neg e v]) S.1 (fun y hy => by
        rcases List.mem_cons.mp hy with rfl | hy
        · have d2 := ae_pls_dn d (-v)
          exact ⟨d2.1, by rw [d2.2]; omega⟩
        · rw [List.mem_singleton.mp hy]
          have d2 := ae_neg_dn d v
          exact ⟨d2.1, by rw [d2.2]; omega⟩))
    · obtain ⟨z', m, rest⟩ := on (bh_vl_ok hb r) q2 (ae_as_ok S.1 (ae_neg_dn d (v + 1)) (by omega))
      exact ⟨z', List.mem_append_right _ m, rest⟩
theorem bh_op_ok : bh_ok mo G L xs Q R r0 ah_op := fun _ _ _ _ _ _ _ q S _ _ => ah_op_ok q S
theorem bh_pd_ok (hr : ae_rok = true) (hf : ae_fok = true) {H : (Nat → Int) → List am_E → Prop} {c : ab_Pd} (hc : ab_PdOK H L xs c) (hG : ∀ r r' h, (∀ s, s < c.2.2.2.2 → r s = r' s) → H r h → H r' h) (hmo : ae_sub2 c.2.2.1 mo = true) (hR : Nat.ble c.2.2.2.2 R = true) : bh_ok mo (H r0) L xs Q R r0 (ab_pdh c) := fun z o ρ g1 g2 h1 h2 q S s1 s2 =>
  ab_pdh_ok hr hf hc hG hmo q S (Nat.le_trans (Nat.le_of_ble_eq_true hR) s1) (fun s hs => s2 s (Nat.lt_of_lt_of_le hs (Nat.le_of_ble_eq_true hR)))
/-! by place: thread, method, instruction, what for; and where both wait -/
abbrev bh_R1 : Type := Bool × Nat × Nat × (ab_St → Bool) × bh_H
abbrev bh_R2 : Type := Nat × Nat × Nat × Nat × bh_H
noncomputable def bh_pl (t : ap_T) : Nat × Nat := match t.1 with
  | f :: _ => (f.2.1, f.2.2.1)
  | [] => (1000, 0)
noncomputable def bh_m1 (a : Bool) (q : Nat × Nat) (z : ab_St) (r : bh_R1) : Bool := (bif a then r.1 else !r.1) && Nat.beq r.2.1 q.1 && Nat.beq r.2.2.1 q.2 && r.2.2.2.1 z
noncomputable def bh_m2 (q1 q2 : Nat × Nat) (r : bh_R2) : Bool := Nat.beq r.1 q1.1 && Nat.beq r.2.1 q1.2 && Nat.beq r.2.2.1 q2.1 && Nat.beq r.2.2.2.1 q2.2
noncomputable def bh_w (wt : Nat → Nat → Bool) (t : ap_T) : Bool := match t.1 with
  | f :: _ => wt f.2.1 f.2.2.1
  | [] => true
noncomputable def bh_hf (R1 : List bh_R1) (R2 : List bh_R2) (wt : Nat → Nat → Bool) (f1 f2 : Bool) (z : ab_St) : Bool :=
  bif !f1 && bh_w wt z.t1 then (bif !f2 && bh_w wt z.t2 then R2.any (bh_m2 (bh_pl z.t1) (bh_pl z.t2)) else R1.any (bh_m1 true (bh_pl z.t2) z)) else R1.any (bh_m1 false (bh_pl z.t1) z)
noncomputable def bh_go (o : Option bh_H) (z : ab_St) : Option (List ab_St) := match o with
  | some h => h z
  | none => none
noncomputable def bh_f1 (R1 : List bh_R1) (a : Bool) (z : ab_St) : Option bh_H := (R1.find? (bh_m1 a (bh_pl (bif a then z.t2 else z.t1)) z)).map fun r => r.2.2.2.2
noncomputable def bh_f2 (R2 : List bh_R2) (z : ab_St) : Option bh_H := (R2.find? (bh_m2 (bh_pl z.t1) (bh_pl z.t2))).map fun r => r.2.2.2.2
/-- a pair of places first, then the first thread's where it does not wait, else the second's -/
noncomputable def bh_hk (R1 : List bh_R1) (R2 : List bh_R2) (wt : Nat → Nat → Bool) : bh_H := fun z => match bh_f2 R2 z with
  | some h => h z
  | none => bif bh_w wt z.t1 then bh_go (bh_f1 R1 true z) z else bh_go (bh_f1 R1 false z) z
theorem bh_hk_ok {R1 : List bh_R1} {R2 : List bh_R2} {wt : Nat → Nat → Bool} (q1 : ∀ r ∈ R1, bh_ok mo G L xs Q R r0 r.2.2.2.2) (q2 : ∀ r ∈ R2, bh_ok mo G L xs Q R r0 r.2.2.2.2) : bh_ok mo G L xs Q R r0 (bh_hk R1 R2 wt) := fun z o ρ g1 g2 h1 h2 q S s1 s2 => by
  have go : ∀ a, bh_go (bh_f1 R1 a z) z = some o → ∃ z' ∈ o, ∃ ρ' g1' g2' h1' h2', ae_up2 ρ z.k ρ' z'.k ∧ ab_sat G L xs ρ' z' g1' g2' h1' h2' ∧ (ap_end mo L xs Q g1' g2' h1' h2' → ap_end mo L xs Q g1 g2 h1 h2) := by
    intro a q
    unfold bh_go at q
    split at q
    · rename_i h hh
      unfold bh_f1 at hh
      obtain ⟨r, e1, e2⟩ := Option.map_eq_some_iff.mp hh
      subst e2
      exact q1 r (List.mem_of_find?_eq_some e1) z o ρ g1 g2 h1 h2 q S s1 s2
    · cases q
  unfold bh_hk at q
  split at q
  · rename_i h hh
    unfold bh_f2 at hh
    obtain ⟨r, e1, e2⟩ := Option.map_eq_some_iff.mp hh
    subst e2
    exact q2 r (List.mem_of_find?_eq_some e1) z o ρ g1 g2 h1 h2 q S s1 s2
  · cases hw : bh_w wt z.t1 with
    | true => rw [hw] at q; exact go true q
    | false => rw [hw] at q; exact go false q
theorem bh_nil {α : Type} {P : α → Prop} : ∀ r ∈ ([] : List α), P r := fun _ h => absurd h List.not_mem_nil
theorem bh_cons {α : Type} {P : α → Prop} {a : α} {l : List α} (h : P a) (q : ∀ r ∈ l, P r) : ∀ r ∈ a :: l, P r := fun r hr => by
  rcases List.mem_cons.mp hr with rfl | hr
  · exact h
  · exact q r hr
end BHA
/-! where such hooks may be, told by the places: kf, as a function of thread and place -/
noncomputable def bh_kf (R1 : List bh_R1) (kf : Bool → Nat → Nat → Bool) : Bool := R1.all fun r => kf r.1 r.2.1 r.2.2.1
noncomputable def bh_qa (R2 : List bh_R2) (kf : Bool → Nat → Nat → Bool) (y1 p1 y2 p2 : Nat) : Bool := bif kf true y2 p2 then true else R2.any (bh_m2 (y1, p1) (y2, p2))
noncomputable def bh_hq (R2 : List bh_R2) (kf : Bool → Nat → Nat → Bool) (wt : Nat → Nat → Bool) : af_Hq := fun f1 f2 y1 p1 y2 p2 => bif Nat.beq y1 1000 then (bif bh_qa R2 kf y1 p1 y2 p2 then true else kf false y1 p1)
  else bif !f1 && wt y1 p1 then (bif Nat.beq y2 1000 then bh_qa R2 kf y1 p1 y2 p2 else bif !f2 && wt y2 p2 then R2.any (bh_m2 (y1, p1) (y2, p2)) else kf true y2 p2) else kf false y1 p1
theorem bh_any {R1 : List bh_R1} {kf : Bool → Nat → Nat → Bool} (hk : bh_kf R1 kf = true) {a : Bool} {q : Nat × Nat} {z : ab_St} (h : R1.any (bh_m1 a q z) = true) : kf a q.1 q.2 = true := by
  obtain ⟨r, m, e⟩ := List.any_eq_true.mp h
  have h2 := List.all_eq_true.mp hk r m
  unfold bh_m1 at e
  simp only [Bool.and_eq_true] at e
  obtain ⟨⟨⟨e1, e2⟩, e3⟩, -⟩ := e
  rw [Nat.eq_of_beq_eq_true e2, Nat.eq_of_beq_eq_true e3] at h2
  have e1 : r.1 = a := by
    revert e1
    cases a <;> cases r.1 <;> intro h <;> first | rfl | cases h
  rw [e1] at h2
  exact h2
theorem bh_at_pl {t : ap_T} {α : Type} (κ : Nat → Nat → α) : af_at t κ = κ (bh_pl t).1 (bh_pl t).2 := by
  obtain ⟨l, v⟩ := t
  cases l with
  | nil => rfl
  | cons f r => rfl
theorem bh_w_pl {wt : Nat → Nat → Bool} {t : ap_T} (h : Nat.beq (bh_pl t).1 1000 = false) : bh_w wt t = wt (bh_pl t).1 (bh_pl t).2 := by
  obtain ⟨l, v⟩ := t
  cases l with
  | nil => cases h
  | cons f r => rfl
theorem bh_hq_ok {W : ab_W} {R1 : List bh_R1} {R2 : List bh_R2} {kf : Bool → Nat → Nat → Bool} {wt : Nat → Nat → Bool} (h : W.hf = bh_hf R1 R2 wt) (hk : bh_kf R1 kf = true) : af_hqok W (bh_hq R2 kf wt) := by
  intro f1 f2 z q
  rw [h] at q
  unfold bh_hf at q
  show af_at z.t1 (fun y1 p1 => af_at z.t2 fun y2 p2 => bh_hq R2 kf wt f1 f2 y1 p1 y2 p2) = true
  rw [bh_at_pl, bh_at_pl]
  have A : (!f1 && bh_w wt z.t1) = true → bh_qa R2 kf (bh_pl z.t1).1 (bh_pl z.t1).2 (bh_pl z.t2).1 (bh_pl z.t2).2 = true := by
    intro e
    rw [e] at q
    unfold bh_qa
    cases hkt : kf true (bh_pl z.t2).1 (bh_pl z.t2).2 with
    | true => rfl
    | false =>
      cases e2 : (!f2 && bh_w wt z.t2) with
      | true => rw [e2] at q; exact q
      | false =>
        rw [e2] at q
        have h3 := bh_any hk (a := true) (q := bh_pl z.t2) q
        rw [hkt] at h3
        cases h3
  have B : (!f1 && bh_w wt z.t1) = false → kf false (bh_pl z.t1).1 (bh_pl z.t1).2 = true := by
    intro e
    rw [e] at q
    exact bh_any hk (a := false) (q := bh_pl z.t1) q
  unfold bh_hq
  cases h1 : Nat.beq (bh_pl z.t1).1 1000 with
  | true =>
    show (bif bh_qa R2 kf (bh_pl z.t1).1 (bh_pl z.t1).2 (bh_pl z.t2).1 (bh_pl z.t2).2 then true else kf false (bh_pl z.t1).1 (bh_pl z.t1).2) = true
    cases e : (!f1 && bh_w wt z.t1) with
    | true => rw [A e]; rfl
    | false =>
      rw [B e]
      cases bh_qa R2 kf (bh_pl z.t1).1 (bh_pl z.t1).2 (bh_pl z.t2).1 (bh_pl z.t2).2 <;> rfl
  | false =>
    rw [← bh_w_pl (wt := wt) h1]
    cases e : (!f1 && bh_w wt z.t1) with
    | true =>
      have hA := A e
      show (bif Nat.beq (bh_pl z.t2).1 1000 then bh_qa R2 kf (bh_pl z.t1).1 (bh_pl z.t1).2 (bh_pl z.t2).1 (bh_pl z.t2).2 else bif !f2 && wt (bh_pl z.t2).1 (bh_pl z.t2).2 then R2.any (bh_m2 (bh_pl z.t1) (bh_pl z.t2)) else kf true (bh_pl z.t2).1 (bh_pl z.t2).2) = true
      rw [hA]
      cases h2 : Nat.beq (bh_pl z.t2).1 1000 with
      | true => rfl
      | false =>
        rw [e] at q
        rw [← bh_w_pl (wt := wt) h2]
        cases e2 : (!f2 && bh_w wt z.t2) with
        | true => rw [e2] at q; exact q
        | false =>
          rw [e2] at q
          exact bh_any hk (a := true) (q := bh_pl z.t2) q
    | false => exact B e
noncomputable def bh_ck (x : bh_X) (c : Int) (z : ab_St) : Bool := match x z with
  | some e => ae_kc (ae_nr z.k e) && ae_ie (ae_nr z.k e).1 c
  | none => false
noncomputable def bh_rq (x : bh_X) (a b : Int) (z : ab_St) : Bool := match x z with
  | some e => ae_rg z.k e a b
  | none => false
noncomputable def bh_un (x : bh_X) (z : ab_St) : Bool := match x z with
  | some e => !(ae_z z.k e) && !(ae_z z.k (ae_neg e 0))
  | none => false
theorem bh_app {α : Type} {P : α → Prop} {a b : List α} (h1 : ∀ t ∈ a, P t) (h2 : ∀ t ∈ b, P t) : ∀ t ∈ a ++ b, P t := fun t ht => by
  rcases List.mem_append.mp ht with h | h
  · exact h1 t h
  · exact h2 t h
theorem bh_cks {W : ab_W} {hq : af_Hq} (h : af_hqok W hq) {n : Nat} {f1 f2 : Bool} {l : List ab_Tm} (q : l.all (af_chk W hq n f1 f2) = true) : ∀ t ∈ l, ab_chk W n f1 f2 t = true := fun t ht => af_ck h (List.all_eq_true.mp q t ht)

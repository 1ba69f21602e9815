/-! The heap: cells by place and index, what always holds of them, and what is known besides -/
abbrev ae_V : Type := Nat × Nat × ae_X
abbrev ae_M : Type := Nat × ae_X × ae_V × Bool
abbrev ae_I : Type := Nat × Int × Int
abbrev ae_Mo : Type := List (Nat × Int × Int)
noncomputable def ae_sg (y : Int) : Int32 := if y < 0 then -1 else if y = 0 then 0 else 1
/-- values: 0 an int, 1 a long, 2 a place, 3 null, 4 an int that tells how an expression compares with 0 -/
noncomputable def ae_ok (n : Nat) (ρ : Nat → Int) (a : ae_V) (v : Value) : Prop := match a.1 with
  | 0 => ∃ x : Int32, v = .int x ∧ ae_dn n ρ a.2.2 x.toInt
  | 1 => ∃ x : Int64, v = .long x ∧ ae_dn n ρ a.2.2 x.toInt
  | 2 => v = .ref a.2.1
  | 3 => v = .null
  | 4 => ∃ y : Int, ae_dn n ρ a.2.2 y ∧ v = .int (ae_sg y)
  | _ => False
theorem ae_ok_ext {n m : Nat} {ρ ρ' : Nat → Int} (hn : n ≤ m) (h : ae_ag n ρ ρ') {a : ae_V} {v : Value} (w : ae_ok n ρ a v) : ae_ok m ρ' a v := by
  obtain ⟨t, q, e⟩ := a
  unfold ae_ok at *
  match t, w with
  | 0, w => obtain ⟨x, h1, h2⟩ := w; exact ⟨x, h1, ae_dn_ext hn h h2⟩
  | 1, w => obtain ⟨x, h1, h2⟩ := w; exact ⟨x, h1, ae_dn_ext hn h h2⟩
  | 2, w => exact w
  | 3, w => exact w
  | 4, w => obtain ⟨x, h1, h2⟩ := w; exact ⟨x, ae_dn_ext hn h h1, h2⟩
  | t + 5, w => exact absurd w id
noncomputable def ae_cv (c : (Nat → Int32) ⊕ (Nat → Int64) ⊕ (Nat → UInt32) ⊕ (Nat → UInt64) ⊕ (Nat → Option Nat)) (j : Nat) : Value := match c with
  | .inl f => .int (f j)
  | .inr (.inl f) => .long (f j)
  | .inr (.inr (.inl _)) => .null
  | .inr (.inr (.inr (.inl _))) => .null
  | .inr (.inr (.inr (.inr f))) => va_rf (f j)
noncomputable def ae_ec (e : am_E) (j : Nat) : Option Value := match e with
  | .inr o => o.2[j]?
  | .inl a => bif Nat.blt j a.2.1 then some (ae_cv a.2.2 j) else none
noncomputable def ae_cell (L : Nat) (xs : Nat → Int32) (h : List am_E) (p j : Nat) : Option Value := match p with
  | 0 => bif Nat.blt j L then some (.int (xs j)) else none
  | k + 1 => h[k]?.bind fun e => ae_ec e j
noncomputable def ae_f1 (s : Nat × Nat × Nat) : am_E → Prop
  | .inr o => s.1 = 0 ∧ o.1 = s.2.1 ∧ o.2.length = s.2.2
  | .inl a => s.1 = 1 ∧ a.1 = s.2.1 ∧ a.2.1 = s.2.2 ∧ (a.1 < 2 → ∃ f, a.2.2 = .inl f) ∧ (a.1 = 2 → ∃ f, a.2.2 = .inr (.inl f)) ∧ (3 ≤ a.1 → ∃ f, a.2.2 = .inr (.inr (.inr (.inr f))))
noncomputable def ae_shp (h : List am_E) : Prop := h.length = ae_np ∧ ∀ k, k < ae_np → ∃ e, h[k]? = some e ∧ ae_f1 (ae_sh (k + 1)) e
noncomputable def ae_io (i : ae_I) (v : Value) : Prop := match i.1 with
  | 0 => ∃ x : Int32, v = .int x ∧ i.2.1 ≤ x.toInt ∧ x.toInt ≤ i.2.2
  | 1 => ∃ x : Int64, v = .long x ∧ i.2.1 ≤ x.toInt ∧ x.toInt ≤ i.2.2
  | 2 => v = .ref i.2.1.toNat
  | 3 => v = .null
  | _ => False
noncomputable def ae_iv (p j : Nat) : ae_I := match ae_ua p with
  | some i => i
  | none => ae_ix p j
/-- the cells that some methods leave out -/
noncomputable def ae_ine (p j : Nat) : Bool := Nat.beq p ae_exp && Nat.ble ae_exl j && Nat.ble j ae_exh
noncomputable def ae_eo (n : Nat) (ρ : Nat → Int) (L : Nat) (xs : Nat → Int32) (h : List am_E) (m : ae_M) : Prop := ∃ (j : Nat) (v : Value), ae_dn n ρ m.2.1 (j : Int) ∧ ae_cell L xs h m.1 j = some v ∧ ae_ok n ρ m.2.2.1 v
noncomputable def ae_dy (ρ : Nat → Int) (M : List ae_M) (p j : Nat) : Prop := ∃ m ∈ M, m.2.2.2 = true ∧ m.1 = p ∧ ae_ev ρ m.2.1 = (j : Int)
noncomputable def ae_iz (o : Option Value) : Int := match o with
  | some (.int x) => x.toInt
  | _ => 0
noncomputable def ae_ls (L : Nat) (xs : Nat → Int32) (h : List am_E) (p b : Nat) : List (Nat × Int) → Int
  | [] => 0
  | t :: r => t.2 * ae_iz (ae_cell L xs h p (b + t.1)) + ae_ls L xs h p b r
/-- a clause: one of its sums is no greater than 0 -/
noncomputable def ae_cl (L : Nat) (xs : Nat → Int32) (h : List am_E) (p b : Nat) (ls : List (Int × List (Nat × Int))) : Prop := ∃ l ∈ ls, l.1 + ae_ls L xs h p b l.2 ≤ 0
abbrev ae_Fm : Type := Nat × Nat × Nat × Nat × Bool × List (Int × List (Nat × Int))
noncomputable def ae_of (ls : List (Int × List (Nat × Int))) : List Nat := ls.flatMap fun l => l.2.map fun t => t.1
noncomputable def ae_hp (ex : Bool) (n : Nat) (ρ : Nat → Int) (L : Nat) (xs : Nat → Int32) (M : List ae_M) (h : List am_E) : Prop :=
  ae_shp h ∧ (∀ m ∈ M, ae_eo n ρ L xs h m) ∧
  (∀ p j v, 0 < p → ae_cell L xs h p j = some v → ae_io (ae_iv p j) v ∨ ae_dy ρ M p j ∨ (ex = true ∧ ae_ine p j = true)) ∧
  (∀ f ∈ ae_fam, ∀ i, i < f.2.2.2.1 → ae_cl L xs h f.1 (f.2.1 + f.2.2.1 * i) f.2.2.2.2.2 ∨ (∃ o ∈ ae_of f.2.2.2.2.2, ae_dy ρ M f.1 (f.2.1 + f.2.2.1 * i + o)) ∨ (ex = true ∧ f.2.2.2.2.1 = true))
theorem ae_eo_ext {n m : Nat} {ρ ρ' : Nat → Int} {L : Nat} {xs : Nat → Int32} {h : List am_E} (hn : n ≤ m) (a : ae_ag n ρ ρ') {q : ae_M} (w : ae_eo n ρ L xs h q) : ae_eo m ρ' L xs h q := by
  obtain ⟨j, v, h1, h2, h3⟩ := w
  exact ⟨j, v, ae_dn_ext hn a h1, h2, ae_ok_ext hn a h3⟩
theorem ae_dy_ext {n : Nat} {ρ ρ' : Nat → Int} {L : Nat} {xs : Nat → Int32} {h : List am_E} (a : ae_ag n ρ ρ') {M : List ae_M} (hM : ∀ m ∈ M, ae_eo n ρ L xs h m) {p j : Nat} (w : ae_dy ρ M p j) : ae_dy ρ' M p j := by
  obtain ⟨m, h1, h2, h3, h4⟩ := w
  obtain ⟨i, v, g1, -, -⟩ := hM m h1
  exact ⟨m, h1, h2, h3, by rw [ae_ev_ag a g1.1]; exact h4⟩
theorem ae_hp_ext {ex : Bool} {n m : Nat} {ρ ρ' : Nat → Int} {L : Nat} {xs : Nat → Int32} {M : List ae_M} {h : List am_E} (hn : n ≤ m) (a : ae_ag n ρ ρ') (w : ae_hp ex n ρ L xs M h) : ae_hp ex m ρ' L xs M h := by
  obtain ⟨h1, h2, h3, h4⟩ := w
  refine ⟨h1, fun q hq => ae_eo_ext hn a (h2 q hq), fun p j v hp hc => ?_, fun f hf i hi => ?_⟩
  · rcases h3 p j v hp hc with q | q | q
    · exact Or.inl q
    · exact Or.inr (Or.inl (ae_dy_ext a h2 q))
    · exact Or.inr (Or.inr q)
  · rcases h4 f hf i hi with q | ⟨o, ho, q⟩ | q
    · exact Or.inl q
    · exact Or.inr (Or.inl ⟨o, ho, ae_dy_ext a h2 q⟩)
    · exact Or.inr (Or.inr q)
noncomputable def ae_te (a b : ae_T) : Bool := List.rec (motive := fun _ => ae_T → Bool) (fun b => match b with
    | [] => true
    | _ :: _ => false) (fun a _ ih b => match b with
    | [] => false
    | b :: s => Nat.beq a.1 b.1 && ae_ie a.2 b.2 && ih s) a b
theorem ae_te_c (a b : Nat × Int) (r s : ae_T) : ae_te (a :: r) (b :: s) = (Nat.beq a.1 b.1 && ae_ie a.2 b.2 && ae_te r s) := rfl
theorem ae_te_ok : ∀ {a b : ae_T}, ae_te a b = true → a = b
  | [], [], _ => rfl
  | a :: r, b :: s, h => by
    rw [ae_te_c] at h
    simp only [Bool.and_eq_true] at h
    obtain ⟨⟨h1, h2⟩, h3⟩ := h
    rw [ae_te_ok h3]
    obtain ⟨a1, a2⟩ := a
    obtain ⟨b1, b2⟩ := b
    have e1 : a1 = b1 := Nat.eq_of_beq_eq_true h1
    have e2 : a2 = b2 := ae_ie_ok h2
    rw [e1, e2]
  | [], _ :: _, h => by cases h
  | _ :: _, [], h => by cases h
noncomputable def ae_xe (a b : ae_X) : Bool := ae_ie a.1 b.1 && ae_te a.2 b.2
theorem ae_xe_ok {a b : ae_X} (h : ae_xe a b = true) : a = b := by
  unfold ae_xe at h
  rw [Bool.and_eq_true] at h
  obtain ⟨a1, a2⟩ := a
  obtain ⟨b1, b2⟩ := b
  have e1 : a1 = b1 := ae_ie_ok h.1
  have e2 : a2 = b2 := ae_te_ok h.2
  rw [e1, e2]
/-- two indices surely differ -/
noncomputable def ae_ds (k : ae_K) (a b : ae_X) : Bool := match (ae_sub a b).2 with
  | [] => !(ae_ie (ae_sub a b).1 0)
  | _ :: _ => ae_l0 k.2.1 k.2.2.1 1 (ae_pls (ae_sub a b) 1) || ae_l0 k.2.1 k.2.2.1 1 (ae_neg (ae_sub a b) 1)
theorem ae_ie_rf : ∀ a : Int, ae_ie a a = true
  | .ofNat a => Nat.beq_refl a
  | .negSucc a => Nat.beq_refl a
theorem ae_ds_ok {ρ : Nat → Int} {k : ae_K} (h : ae_okK ρ k) {a b : ae_X} (q : ae_ds k a b = true) : ae_ev ρ a ≠ ae_ev ρ b := by
  have hs := ae_sub_ev ρ a b
  intro e
  have hz : ae_ev ρ (ae_sub a b) = 0 := by omega
  unfold ae_ds at q
  split at q
  · rename_i h1
    have h2 : (ae_sub a b).1 = 0 := by
      unfold ae_ev at hz
      rw [h1] at hz
      have h3 : ae_et ρ ([] : ae_T) = 0 := rfl
      omega
    rw [h2] at q
    cases q
  · rw [Bool.or_eq_true] at q
    rcases q with q | q
    · have := ae_l0_ok h.1 h.2.1 q
      rw [ae_pls_ev] at this
      omega
    · have := ae_l0_ok h.1 h.2.1 q
      rw [ae_neg_ev] at this
      omega
noncomputable def ae_fd (M : List ae_M) (p : Nat) (e : ae_X) : Option ae_M := List.rec (motive := fun _ => Option ae_M) none (fun m _ r => Bool.rec (motive := fun _ => Option ae_M) r (Bool.rec (motive := fun _ => Option ae_M) r (some m) (ae_xe m.2.1 e)) (Nat.beq m.1 p)) M
theorem ae_fd_f {p : Nat} {e : ae_X} : ∀ M : List ae_M, ae_fd M p e = M.find? fun m => Nat.beq m.1 p && ae_xe m.2.1 e
  | [] => rfl
  | m :: r => by
    rw [List.find?_cons, ← ae_fd_f r]
    show Bool.rec (motive := fun _ => Option ae_M) (ae_fd r p e) (Bool.rec (motive := fun _ => Option ae_M) (ae_fd r p e) (some m) (ae_xe m.2.1 e)) (Nat.beq m.1 p) = _
    cases Nat.beq m.1 p with
    | false => rfl
    | true => cases ae_xe m.2.1 e <;> rfl
theorem ae_fd_ok {M : List ae_M} {p : Nat} {e : ae_X} {m : ae_M} (h : ae_fd M p e = some m) : m ∈ M ∧ m.1 = p ∧ m.2.1 = e := by
  rw [ae_fd_f] at h
  have h1 := List.mem_of_find?_eq_some h
  have h2 := List.find?_some h
  rw [Bool.and_eq_true] at h2
  exact ⟨h1, Nat.eq_of_beq_eq_true h2.1, ae_xe_ok h2.2⟩
/-- no dirty cell lies there -/
noncomputable def ae_nd (k : ae_K) (M : List ae_M) (p : Nat) (e : ae_X) : Bool := List.rec (motive := fun _ => Bool) true (fun m _ r => Bool.rec (motive := fun _ => Bool) r (Bool.rec (motive := fun _ => Bool) r (Bool.rec (motive := fun _ => Bool) false r (ae_ds k m.2.1 e)) (Nat.beq m.1 p)) m.2.2.2) M
theorem ae_nd_a {k : ae_K} {p : Nat} {e : ae_X} : ∀ M : List ae_M, ae_nd k M p e = M.all fun m => !m.2.2.2 || !(Nat.beq m.1 p) || ae_ds k m.2.1 e
  | [] => rfl
  | m :: r => by
    rw [List.all_cons, ← ae_nd_a r]
    show Bool.rec (motive := fun _ => Bool) (ae_nd k r p e) (Bool.rec (motive := fun _ => Bool) (ae_nd k r p e) (Bool.rec (motive := fun _ => Bool) false (ae_nd k r p e) (ae_ds k m.2.1 e)) (Nat.beq m.1 p)) m.2.2.2 = _
    cases m.2.2.2 with
    | false => rfl
    | true =>
      cases Nat.beq m.1 p with
      | false => rfl
      | true => cases ae_ds k m.2.1 e <;> rfl
theorem ae_nd_ok {ρ : Nat → Int} {k : ae_K} (h : ae_okK ρ k) {M : List ae_M} {p j : Nat} {e : ae_X} (he : ae_ev ρ e = (j : Int)) (q : ae_nd k M p e = true) : ¬ ae_dy ρ M p j := by
  intro ⟨m, h1, h2, h3, h4⟩
  rw [ae_nd_a] at q
  have h5 := List.all_eq_true.mp q m h1
  rw [h2, h3, Nat.beq_refl] at h5
  exact ae_ds_ok h h5 (by rw [h4, he])
/-- surely not among the cells that are left out -/
noncomputable def ae_nx (k : ae_K) (p : Nat) (e : ae_X) : Bool := !(Nat.beq p ae_exp) || ae_z k (ae_pls e (1 - (ae_exl : Int))) || ae_z k (ae_neg e ((ae_exh : Int) + 1))
theorem ae_nx_ok {ρ : Nat → Int} {k : ae_K} (h : ae_okK ρ k) {p j : Nat} {e : ae_X} (he : ae_ev ρ e = (j : Int)) (q : ae_nx k p e = true) : ae_ine p j = false := by
  unfold ae_nx at q
  simp only [Bool.or_eq_true, Bool.not_eq_true'] at q
  unfold ae_ine
  rcases q with (q | q) | q
  · rw [q]; rfl
  · have h1 := ae_z_ok h q
    rw [ae_pls_ev, he] at h1
    have h2 : Nat.ble ae_exl j = false := by
      cases hb : Nat.ble ae_exl j with
      | true => have := Nat.le_of_ble_eq_true hb; omega
      | false => rfl
    rw [h2, Bool.and_false]; rfl
  · have h1 := ae_z_ok h q
    rw [ae_neg_ev, he] at h1
    have h2 : Nat.ble j ae_exh = false := by
      cases hb : Nat.ble j ae_exh with
      | true => have := Nat.le_of_ble_eq_true hb; omega
      | false => rfl
    rw [h2, Bool.and_false]
/-- surely among them -/
noncomputable def ae_yx (k : ae_K) (p : Nat) (e : ae_X) : Bool := Nat.beq p ae_exp && ae_rg k e (ae_exl : Int) (ae_exh : Int)
theorem ae_yx_ok {ρ : Nat → Int} {k : ae_K} (h : ae_okK ρ k) {p j : Nat} {e : ae_X} (he : ae_ev ρ e = (j : Int)) (q : ae_yx k p e = true) : ae_ine p j = true := by
  unfold ae_yx at q
  rw [Bool.and_eq_true] at q
  have h1 := ae_rg_ok h q.2
  rw [he] at h1
  unfold ae_ine
  rw [q.1, Nat.ble_eq_true_of_le (by omega), Nat.ble_eq_true_of_le (by omega)]
  rfl
/-- which indices an expression can be: from a on, n of them, by steps -/
noncomputable def ae_gc : ae_T → Nat
  | [] => 0
  | t :: r => Nat.gcd t.2.natAbs (ae_gc r)
noncomputable def ae_stp (e : ae_X) : Nat := bif Nat.beq (ae_gc e.2) 0 then 1 else ae_gc e.2
noncomputable def ae_js (k : ae_K) (e : ae_X) : Option (Nat × Nat × Nat) := match e.2 with
  | [] => bif ae_nn e.1 then some (e.1.toNat, 1, 1) else none
  | _ :: _ => (ae_lo k e).bind fun a => (ae_hi k e).bind fun b => bif ae_nn a && ae_le b 4000 then
      (let s := ae_stp e
       let a1 := (a + (e.1 - a) % (s : Int)).toNat
       some (a1, s, (b.toNat + 1 - a1 + (s - 1)) / s)) else none
theorem ae_gc_dvd (ρ : Nat → Int) : ∀ r : ae_T, ((ae_gc r : Nat) : Int) ∣ ae_et ρ r
  | [] => Int.dvd_zero _
  | t :: r => by
    have h1 : ((ae_gc (t :: r) : Nat) : Int) ∣ t.2 := Int.ofNat_dvd_left.mpr (Nat.gcd_dvd_left _ _)
    have h2 : ((ae_gc (t :: r) : Nat) : Int) ∣ ((ae_gc r : Nat) : Int) := Int.natCast_dvd_natCast.mpr (Nat.gcd_dvd_right _ _)
    exact Int.dvd_add (Int.dvd_trans h1 (Int.dvd_mul_right _ _)) (Int.dvd_trans h2 (ae_gc_dvd ρ r))
theorem ae_stp_dvd (ρ : Nat → Int) (e : ae_X) : ((ae_stp e : Nat) : Int) ∣ (ae_ev ρ e - e.1) := by
  have h : ae_ev ρ e - e.1 = ae_et ρ e.2 := by unfold ae_ev; omega
  rw [h]
  unfold ae_stp
  cases Nat.beq (ae_gc e.2) 0 with
  | true => exact Int.one_dvd _
  | false => exact ae_gc_dvd ρ e.2
theorem ae_stp_pos (e : ae_X) : 0 < ae_stp e := by
  unfold ae_stp
  cases h : Nat.beq (ae_gc e.2) 0 with
  | true => exact Nat.one_pos
  | false =>
    show 0 < ae_gc e.2
    rcases Nat.eq_zero_or_pos (ae_gc e.2) with h1 | h1
    · rw [h1] at h; cases h
    · exact h1
theorem ae_js_ok {ρ : Nat → Int} {k : ae_K} (h : ae_okK ρ k) {e : ae_X} {j a s n : Nat} (he : ae_ev ρ e = (j : Int)) (q : ae_js k e = some (a, s, n)) : ∃ i, i < n ∧ j = a + s * i := by
  unfold ae_js at q
  split at q
  · rename_i h1
    cases hn : ae_nn e.1 with
    | false => rw [hn] at q; cases q
    | true =>
      rw [hn] at q
      cases q
      refine ⟨0, Nat.one_pos, ?_⟩
      unfold ae_ev at he
      rw [h1] at he
      have h3 : ae_et ρ ([] : ae_T) = 0 := rfl
      omega
  · obtain ⟨a0, h2, q⟩ := Option.bind_eq_some_iff.mp q
    obtain ⟨b0, h3, q⟩ := Option.bind_eq_some_iff.mp q
    have h4 := ae_lo_ok h h2
    have h5 := ae_hi_ok h h3
    rw [he] at h4 h5
    cases hb : ae_nn a0 && ae_le b0 4000 with
    | false => rw [hb] at q; cases q
    | true =>
      rw [hb] at q
      rw [Bool.and_eq_true] at hb
      have ha := ae_nn_iff.mp hb.1
      have hs := ae_stp_pos e
      have hd := ae_stp_dvd ρ e
      rw [he] at hd
      simp only [cond_true, Option.some.injEq, Prod.mk.injEq] at q
      obtain ⟨q1, q2, q3⟩ := q
      rw [q2] at q1 q3 hd hs
      have hs' : (0 : Int) < (s : Int) := by omega
      have hm := Int.emod_nonneg (e.1 - a0) (Int.ne_of_gt hs')
      have hm2 := Int.emod_lt_of_pos (e.1 - a0) hs'
      -- a1 = a0 + r, r = (e.1 - a0) mod s; j - a1 is a multiple of s and above -s
      have hdr : (s : Int) ∣ ((e.1 - a0) - (e.1 - a0) % (s : Int)) := Int.dvd_self_sub_emod
      have h6 : (s : Int) ∣ ((j : Int) - (a0 + (e.1 - a0) % (s : Int))) := by
        have h7 := Int.dvd_add hd hdr
        have h8 : (j : Int) - e.1 + ((e.1 - a0) - (e.1 - a0) % (s : Int)) = (j : Int) - (a0 + (e.1 - a0) % (s : Int)) := by omega
        rwa [h8] at h7
      obtain ⟨c, hc⟩ := h6
      have hc0 : 0 ≤ c := by
        rcases Int.lt_or_le c 0 with h9 | h9
        · have h10 : (s : Int) * c ≤ (s : Int) * (-1) := Int.mul_le_mul_of_nonneg_left (by omega) (by omega)
          omega
        · exact h9
      obtain ⟨i, rfl⟩ := Int.eq_ofNat_of_zero_le hc0
      have hj : j = a + s * i := by
        have h11 : ((s * i : Nat) : Int) = (s : Int) * (i : Int) := Int.natCast_mul s i
        omega
      refine ⟨i, ?_, hj⟩
      have h12 : j ≤ b0.toNat := by omega
      rw [← q3, q1, Nat.lt_div_iff_mul_lt hs]
      have h13 : i * s = s * i := Nat.mul_comm i s
      omega
noncomputable def ae_hu (a : Option ae_I) (i : ae_I) : Option ae_I := a.bind fun q => bif Nat.beq q.1 i.1 then some (q.1, (bif ae_le q.2.1 i.2.1 then q.2.1 else i.2.1), bif ae_le i.2.2 q.2.2 then q.2.2 else i.2.2) else none
noncomputable def ae_hf (p a s : Nat) : Nat → Option ae_I
  | 0 => none
  | 1 => some (ae_ix p a)
  | n + 2 => ae_hu (ae_hf p a s (n + 1)) (ae_ix p (a + s * (n + 1)))
/-- i allows all that j does -/
noncomputable def ae_il (j i : ae_I) : Prop := j.1 = i.1 ∧ (j.1 < 2 → i.2.1 ≤ j.2.1 ∧ j.2.2 ≤ i.2.2) ∧ (2 ≤ j.1 → i.2.1 ≤ j.2.1 ∧ j.2.1 ≤ j.2.2 → i.2.1 ≤ j.2.1 ∧ j.2.2 ≤ i.2.2)
noncomputable def ae_hull (k : ae_K) (p : Nat) (e : ae_X) : Option ae_I := match p with
  | 0 => some (0, -2147483648, 2147483647)
  | _ + 1 => match ae_ua p with
    | some i => some i
    | none => (ae_js k e).bind fun q => ae_hf p q.1 q.2.1 q.2.2
theorem ae_hf_ok {p a s : Nat} : ∀ {n i : Nat} {z : ae_I}, ae_hf p a s n = some z → i < n → z.1 = (ae_ix p (a + s * i)).1 ∧ z.2.1 ≤ (ae_ix p (a + s * i)).2.1 ∧ (ae_ix p (a + s * i)).2.2 ≤ z.2.2
  | 0, _, _, _, h => absurd h (Nat.not_lt_zero _)
  | 1, i, z, q, h => by
    obtain rfl : i = 0 := by omega
    cases q
    exact ⟨rfl, Int.le_refl _, Int.le_refl _⟩
  | n + 2, i, z, q, h => by
    unfold ae_hf at q
    obtain ⟨w, h1, q⟩ := Option.bind_eq_some_iff.mp q
    cases hb : Nat.beq w.1 (ae_ix p (a + s * (n + 1))).1 with
    | false => rw [hb] at q; cases q
    | true =>
      rw [hb] at q
      have hb := Nat.eq_of_beq_eq_true hb
      have l1 : (bif ae_le w.2.1 (ae_ix p (a + s * (n + 1))).2.1 then w.2.1 else (ae_ix p (a + s * (n + 1))).2.1) ≤ w.2.1 ∧ (bif ae_le w.2.1 (ae_ix p (a + s * (n + 1))).2.1 then w.2.1 else (ae_ix p (a + s * (n + 1))).2.1) ≤ (ae_ix p (a + s * (n + 1))).2.1 := by
        cases h5 : ae_le w.2.1 (ae_ix p (a + s * (n + 1))).2.1 with
        | true => exact ⟨Int.le_refl _, ae_le_iff.mp h5⟩
        | false =>
          refine ⟨?_, Int.le_refl _⟩
          rcases Int.lt_or_le (ae_ix p (a + s * (n + 1))).2.1 w.2.1 with h6 | h6
          · exact Int.le_of_lt h6
          · rw [ae_le_iff.mpr h6] at h5; cases h5
      have l2 : w.2.2 ≤ (bif ae_le (ae_ix p (a + s * (n + 1))).2.2 w.2.2 then w.2.2 else (ae_ix p (a + s * (n + 1))).2.2) ∧ (ae_ix p (a + s * (n + 1))).2.2 ≤ (bif ae_le (ae_ix p (a + s * (n + 1))).2.2 w.2.2 then w.2.2 else (ae_ix p (a + s * (n + 1))).2.2) := by
        cases h5 : ae_le (ae_ix p (a + s * (n + 1))).2.2 w.2.2 with
        | true => exact ⟨Int.le_refl _, ae_le_iff.mp h5⟩
        | false =>
          refine ⟨?_, Int.le_refl _⟩
          rcases Int.lt_or_le w.2.2 (ae_ix p (a + s * (n + 1))).2.2 with h6 | h6
          · exact Int.le_of_lt h6
          · rw [ae_le_iff.mpr h6] at h5; cases h5
      simp only [cond_true, Option.some.injEq] at q
      subst q
      rcases Nat.lt_or_ge i (n + 1) with h7 | h7
      · obtain ⟨g1, g2, g3⟩ := ae_hf_ok h1 h7
        exact ⟨g1, Int.le_trans l1.1 g2, Int.le_trans g3 l2.1⟩
      · obtain rfl : i = n + 1 := by omega
        exact ⟨hb, l1.2, l2.2⟩
/-- a place's hull holds what its cells hold -/
theorem ae_hull_ok {ρ : Nat → Int} {k : ae_K} (h : ae_okK ρ k) {p j : Nat} {e : ae_X} {z : ae_I} (hp : 0 < p) (he : ae_ev ρ e = (j : Int)) (q : ae_hull k p e = some z) : z.1 = (ae_iv p j).1 ∧ z.2.1 ≤ (ae_iv p j).2.1 ∧ (ae_iv p j).2.2 ≤ z.2.2 := by
  unfold ae_hull at q
  unfold ae_iv
  cases p with
  | zero => exact absurd hp (Nat.lt_irrefl 0)
  | succ p =>
    dsimp only at q
    split at q
    · rename_i i hi
      cases q
      exact ⟨rfl, Int.le_refl _, Int.le_refl _⟩
    · obtain ⟨w, h1, q⟩ := Option.bind_eq_some_iff.mp q
      obtain ⟨a, s, n⟩ := w
      obtain ⟨i, h2, h3⟩ := ae_js_ok h he h1
      rw [h3]
      exact ae_hf_ok q h2

/-! Ties: cells whose numbers go with other cells' -/
/-- so many times the cell at place, first index, stride -/
abbrev ab_Tt : Type := Int × Nat × Nat × Nat
abbrev ab_Gd : Type := Int × Int × List ab_Tt
/-- a tie: place, first index, how many; its number is so much and so many times other cells; or one of these is no greater than 0; its stride -/
abbrev ab_Ti : Type := Nat × Nat × Nat × (Int × List ab_Tt) × List ab_Gd × Nat
abbrev ab_Ti.st (t : ab_Ti) : Nat := t.2.2.2.2.2
noncomputable def ab_vz (o : Option Value) : Int := match o with
  | some (.int x) => x.toInt
  | some (.long x) => x.toInt
  | _ => 0
noncomputable def ab_cv (L : Nat) (xs : Nat → Int32) (h : List am_E) (p j : Nat) : Int := ab_vz (ae_cell L xs h p j)
noncomputable def ab_sum (f : Nat → Nat → Int) (i : Nat) : List ab_Tt → Int
  | [] => 0
  | t :: r => t.1 * f t.2.1 (t.2.2.1 + t.2.2.2 * i) + ab_sum f i r
noncomputable def ab_gd (f : Nat → Nat → Int) (i : Nat) (g : ab_Gd) : Int := g.1 + g.2.1 * (i : Int) + ab_sum f i g.2.2
noncomputable def ab_hold (f : Nat → Nat → Int) (t : ab_Ti) (i : Nat) : Prop := (∃ g ∈ t.2.2.2.2.1, ab_gd f i g ≤ 0) ∨ f t.1 (t.2.1 + t.st * i) = t.2.2.2.1.1 + ab_sum f i t.2.2.2.1.2
noncomputable def ab_RI (T : List ab_Ti) (f : Nat → Nat → Int) : Prop := ∀ t ∈ T, ∀ i, i < t.2.2.1 → ab_hold f t i
theorem ab_sum_eq {f g : Nat → Nat → Int} {i : Nat} : ∀ {l : List ab_Tt}, (∀ t ∈ l, g t.2.1 (t.2.2.1 + t.2.2.2 * i) = f t.2.1 (t.2.2.1 + t.2.2.2 * i)) → ab_sum g i l = ab_sum f i l
  | [], _ => rfl
  | t :: r, h => by
    show t.1 * g t.2.1 (t.2.2.1 + t.2.2.2 * i) + ab_sum g i r = t.1 * f t.2.1 (t.2.2.1 + t.2.2.2 * i) + ab_sum f i r
    rw [h t List.mem_cons_self, ab_sum_eq (l := r) (fun t ht => h t (List.mem_cons_of_mem _ ht))]
theorem ab_RI_eq {f g : Nat → Nat → Int} (e : ∀ p j, g p j = f p j) {T : List ab_Ti} (q : ab_RI T f) : ab_RI T g := by
  have : g = f := funext fun p => funext fun j => e p j
  rw [this]; exact q
/-! what the entries of old say -/
noncomputable def ab_ou (k : ae_K) (w : ae_Mo) (p : Nat) (e : ae_X) : Bool := ae_ou k w (p, e, (0, 0, ae_num 0), false)
/-- an entry of the same cell, its index looked at anew -/
noncomputable def ab_fa (k : ae_K) (M : List ae_M) (p : Nat) (e : ae_X) : Option ae_M := List.rec (motive := fun _ => Option ae_M) none (fun m _ r => Bool.rec (motive := fun _ => Option ae_M) r (Bool.rec (motive := fun _ => Option ae_M) (Bool.rec (motive := fun _ => Option ae_M) r (some m) (ae_xe (ae_nr k m.2.1) e)) r m.2.2.2) (Nat.beq m.1 p)) M
theorem ab_fa_f {k : ae_K} {p : Nat} {e : ae_X} : ∀ M : List ae_M, ab_fa k M p e = M.find? fun m => Nat.beq m.1 p && !m.2.2.2 && ae_xe (ae_nr k m.2.1) e
  | [] => rfl
  | m :: r => by
    rw [List.find?_cons, ← ab_fa_f r]
    show Bool.rec (motive := fun _ => Option ae_M) (ab_fa k r p e) (Bool.rec (motive := fun _ => Option ae_M) (Bool.rec (motive := fun _ => Option ae_M) (ab_fa k r p e) (some m) (ae_xe (ae_nr k m.2.1) e)) (ab_fa k r p e) m.2.2.2) (Nat.beq m.1 p) = _
    cases Nat.beq m.1 p with
    | false => rfl
    | true =>
      cases m.2.2.2 with
      | true => rfl
      | false => cases ae_xe (ae_nr k m.2.1) e <;> rfl
noncomputable def ab_ov (k : ae_K) (O : List ae_M) (p : Nat) (e : ae_X) : Option ae_X := (ab_fa k O p (ae_nr k e)).bind fun m => bif Nat.blt m.2.2.1.1 2 then some m.2.2.1.2.2 else none
/-- from a place on, by a stride -/
noncomputable def ab_at (i : ae_X) (b s : Nat) : ae_X := match s with
  | 0 => ae_num (b : Int)
  | 1 => ae_pls i (b : Int)
  | _ => ae_pls (ae_scl (s : Int) i) (b : Int)
/-- how many strides -/
noncomputable def ab_dv (s : Nat) (e : ae_X) : Option ae_X := match s with
  | 0 => none
  | 1 => some e
  | _ => bif ae_ie (e.1 % (s : Int)) 0 && e.2.all (fun t => ae_ie (t.2 % (s : Int)) 0) then some (e.1 / (s : Int), e.2.map fun t => (t.1, t.2 / (s : Int))) else none
noncomputable def ab_os (k : ae_K) (O : List ae_M) (i : ae_X) : List ab_Tt → Option ae_X
  | [] => some (ae_num 0)
  | t :: r => (ab_ov k O t.2.1 (ab_at i t.2.2.1 t.2.2.2)).bind fun x => (ab_os k O i r).bind fun y => some (ae_add (ae_scl t.1 x) y)
noncomputable def ab_gf (k : ae_K) (O : List ae_M) (i : ae_X) (g : ab_Gd) : Bool := match ab_os k O i g.2.2 with
  | some y => ae_z k (ae_neg (ae_add (ae_scl g.2.1 i) y) (1 - g.1))
  | none => false
/-- which one of a tie a cell is -/
noncomputable def ab_ix (k : ae_K) (p : Nat) (e : ae_X) (t : ab_Ti) : Option ae_X := bif Nat.beq t.1 p then (ab_dv t.st (ae_pls e (-(t.2.1 : Int)))).bind fun i => bif (bif ae_kc i then ae_nn i.1 && ae_le (i.1 + 1) (t.2.2.1 : Int) else ae_rg k i 0 ((t.2.2.1 : Int) - 1)) then some i else none else none
noncomputable def ab_ti (k : ae_K) (O : List ae_M) (p : Nat) (e : ae_X) (t : ab_Ti) : Option ae_X := (ab_ix k p e t).bind fun i =>
  bif t.2.2.2.2.1.all (ab_gf k O i) then (ab_os k O i t.2.2.2.1.2).bind fun y => some (ae_pls y t.2.2.2.1.1) else none
noncomputable def ab_tv (k : ae_K) (O : List ae_M) (T : List ab_Ti) (p : Nat) (e : ae_X) : Option ae_X := T.findSome? (ab_ti k O p e)
section ABA
variable {L : Nat} {xs : Nat → Int32} {ρ : Nat → Int} {k : ae_K} {O : List ae_M} {h0 h : List am_E}
theorem ab_ok_cv {n : Nat} {a : ae_V} {v : Value} {p j : Nat} (ha : Nat.blt a.1 2 = true) (hv : ae_ok n ρ a v) (hc : ae_cell L xs h p j = some v) : ae_dn n ρ a.2.2 (ab_cv L xs h p j) := by
  unfold ab_cv
  rw [hc]
  obtain ⟨t, q, e⟩ := a
  match t, ha, hv with
  | 0, _, hv => obtain ⟨x, rfl, d⟩ := hv; exact d
  | 1, _, hv => obtain ⟨x, rfl, d⟩ := hv; exact d
  | t + 2, ha, _ => exact absurd (Nat.blt_eq.mp ha) (by show ¬ t + 2 < 2; omega)
theorem ab_fa_ok (hK : ae_okK ρ k) (hO : ∀ m ∈ O, ae_eo k.1 ρ L xs h m) {p j : Nat} {e : ae_X} (hd : ae_dn k.1 ρ e (j : Int)) {m : ae_M} (q : ab_fa k O p e = some m) : ∃ v, ae_cell L xs h p j = some v ∧ ae_ok k.1 ρ m.2.2.1 v := by
  rw [ab_fa_f] at q
  have h1 := List.mem_of_find?_eq_some q
  have h2 := List.find?_some q
  simp only [Bool.and_eq_true] at h2
  obtain ⟨⟨b1, -⟩, b3⟩ := h2
  obtain ⟨j', v, d1, c1, o1⟩ := hO m h1
  have d1 := ae_nr_dn hK d1
  rw [ae_xe_ok b3] at d1
  have : j' = j := by have := d1.2; rw [hd.2] at this; omega
  subst this
  rw [Nat.eq_of_beq_eq_true b1] at c1
  exact ⟨v, c1, o1⟩
theorem ab_ov_ok (hK : ae_okK ρ k) (hO : ∀ m ∈ O, ae_eo k.1 ρ L xs h m) {p j : Nat} {e x : ae_X} (hd : ae_dn k.1 ρ e (j : Int)) (q : ab_ov k O p e = some x) : ae_dn k.1 ρ x (ab_cv L xs h p j) := by
  obtain ⟨m, h1, q⟩ := Option.bind_eq_some_iff.mp q
  obtain ⟨hb, q⟩ := ae_bif q
  cases q
  obtain ⟨v, c1, o1⟩ := ab_fa_ok hK hO (ae_nr_dn hK hd) h1
  exact ab_ok_cv hb o1 c1
theorem ab_at_dn {n : Nat} {i : ae_X} {i0 b s : Nat} (hi : ae_dn n ρ i (i0 : Int)) : ae_dn n ρ (ab_at i b s) ((b + s * i0 : Nat) : Int) := by
  match s with
  | 0 =>
    rw [show b + 0 * i0 = b by omega]
    exact ae_num_dn _
  | 1 =>
    have d := ae_pls_dn hi (b : Int)
    rw [show (i0 : Int) + (b : Int) = ((b + 1 * i0 : Nat) : Int) by omega] at d
    exact d
  | s + 2 =>
    have d := ae_pls_dn (ae_scl_dn hi ((s + 2 : Nat) : Int)) (b : Int)
    rw [show ((s + 2 : Nat) : Int) * (i0 : Int) + (b : Int) = ((b + (s + 2) * i0 : Nat) : Int) by rw [Int.natCast_add b ((s + 2) * i0), Int.natCast_mul (s + 2) i0]; exact Int.add_comm _ _] at d
    exact d
theorem ab_dv_et {s : Nat} (hs : 0 < s) : ∀ {l : ae_T}, l.all (fun t => ae_ie (t.2 % (s : Int)) 0) = true → (s : Int) * ae_et ρ (l.map fun t => (t.1, t.2 / (s : Int))) = ae_et ρ l ∧ (∀ n, ae_wt n l → ae_wt n (l.map fun t => (t.1, t.2 / (s : Int))))
  | [], _ => ⟨Int.mul_zero _, fun _ _ => trivial⟩
  | t :: r, q => by
    rw [List.all_cons, Bool.and_eq_true] at q
    obtain ⟨ih1, ih2⟩ := ab_dv_et hs (l := r) q.2
    refine ⟨?_, fun n h => ⟨h.1, ih2 n h.2⟩⟩
    have e : t.2 % (s : Int) = 0 := ae_ie_ok q.1
    have e2 : (s : Int) * (t.2 / (s : Int)) = t.2 := Int.mul_ediv_cancel' (Int.dvd_of_emod_eq_zero e)
    show (s : Int) * (t.2 / (s : Int) * ρ t.1 + ae_et ρ (r.map fun t => (t.1, t.2 / (s : Int)))) = t.2 * ρ t.1 + ae_et ρ r
    rw [Int.mul_add, ih1, ← Int.mul_assoc, e2]
theorem ab_dv_dn {n s : Nat} {e i : ae_X} {x : Int} (hd : ae_dn n ρ e x) (q : ab_dv s e = some i) : ∃ y : Int, ae_dn n ρ i y ∧ x = (s : Int) * y := by
  match s, q with
  | 0, q => cases q
  | 1, q => cases q; exact ⟨x, hd, by omega⟩
  | s + 2, q =>
    obtain ⟨hb, q⟩ := ae_bif (show (bif _ then _ else none) = some i from q)
    cases q
    rw [Bool.and_eq_true] at hb
    obtain ⟨h1, h2⟩ := ab_dv_et (ρ := ρ) (s := s + 2) (by omega) hb.2
    have em : e.1 % ((s + 2 : Nat) : Int) = 0 := ae_ie_ok hb.1
    have e2 : ((s + 2 : Nat) : Int) * (e.1 / ((s + 2 : Nat) : Int)) = e.1 := Int.mul_ediv_cancel' (Int.dvd_of_emod_eq_zero em)
    refine ⟨_, ⟨h2 _ hd.1, rfl⟩, ?_⟩
    show x = ((s + 2 : Nat) : Int) * (e.1 / ((s + 2 : Nat) : Int) + ae_et ρ (e.2.map fun t => (t.1, t.2 / ((s + 2 : Nat) : Int))))
    rw [Int.mul_add, h1, e2]
    exact hd.2.symm
theorem ab_os_ok (hK : ae_okK ρ k) (hO : ∀ m ∈ O, ae_eo k.1 ρ L xs h m) {i : ae_X} {i0 : Nat} (hi : ae_dn k.1 ρ i (i0 : Int)) : ∀ {l : List ab_Tt} {y : ae_X}, ab_os k O i l = some y → ae_dn k.1 ρ y (ab_sum (ab_cv L xs h) i0 l)
  | [], y, q => by cases q; exact ae_num_dn 0
  | t :: r, y, q => by
    obtain ⟨x, h1, q⟩ := Option.bind_eq_some_iff.mp q
    obtain ⟨y', h2, q⟩ := Option.bind_eq_some_iff.mp q
    cases q
    exact ae_add_dn (ae_scl_dn (ab_ov_ok hK hO (ab_at_dn hi) h1) t.1) (ab_os_ok hK hO hi h2)
theorem ab_gf_ok (hK : ae_okK ρ k) (hO : ∀ m ∈ O, ae_eo k.1 ρ L xs h m) {i : ae_X} {i0 : Nat} (hi : ae_dn k.1 ρ i (i0 : Int)) {g : ab_Gd} (q : ab_gf k O i g = true) : ¬ ab_gd (ab_cv L xs h) i0 g ≤ 0 := by
  unfold ab_gf at q
  split at q
  · rename_i y hy
    have d := ab_os_ok hK hO hi hy
    have z := ae_z_ok hK q
    rw [(ae_neg_dn (ae_add_dn (ae_scl_dn hi g.2.1) d) (1 - g.1)).2] at z
    unfold ab_gd
    omega
  · cases q
theorem ab_ix_ok {p : Nat} {e i : ae_X} {j : Nat} {t : ab_Ti} (hK : ae_okK ρ k) (hd : ae_dn k.1 ρ e (j : Int)) (q : ab_ix k p e t = some i) : t.1 = p ∧ ∃ i0 : Nat, j = t.2.1 + t.st * i0 ∧ i0 < t.2.2.1 ∧ ae_dn k.1 ρ i (i0 : Int) := by
  obtain ⟨hb, q⟩ := ae_bif q
  obtain ⟨i', h1, q⟩ := Option.bind_eq_some_iff.mp q
  obtain ⟨h2, q⟩ := ae_bif q
  cases q
  refine ⟨Nat.eq_of_beq_eq_true hb, ?_⟩
  obtain ⟨y, d, e1⟩ := ab_dv_dn (ae_pls_dn hd (-(t.2.1 : Int))) h1
  have r : 0 ≤ y ∧ y + 1 ≤ (t.2.2.1 : Int) := by
    cases hk : ae_kc i with
    | true =>
      rw [hk] at h2
      have h2 : (ae_nn i.1 && ae_le (i.1 + 1) (t.2.2.1 : Int)) = true := h2
      rw [Bool.and_eq_true] at h2
      have v : ae_ev ρ i = i.1 := by
        unfold ae_kc at hk
        unfold ae_ev
        revert hk
        cases i.2 with
        | nil => intro _; exact Int.add_zero _
        | cons _ _ => intro h; cases h
      rw [← d.2, v]
      exact ⟨ae_nn_iff.mp h2.1, ae_le_iff.mp h2.2⟩
    | false =>
      rw [hk] at h2
      have h2 : ae_rg k i 0 ((t.2.2.1 : Int) - 1) = true := h2
      have g := ae_rg_ok hK h2
      rw [d.2] at g
      omega
  refine ⟨y.toNat, ?_, by omega, ?_⟩
  · have : ((t.st * y.toNat : Nat) : Int) = (t.st : Int) * y := by rw [Int.natCast_mul, Int.toNat_of_nonneg r.1]
    omega
  · rw [Int.toNat_of_nonneg r.1]; exact d
theorem ab_ti_ok (hK : ae_okK ρ k) (hO : ∀ m ∈ O, ae_eo k.1 ρ L xs h m) {T : List ab_Ti} (hT : ab_RI T (ab_cv L xs h)) {p j : Nat} {e x : ae_X} (hd : ae_dn k.1 ρ e (j : Int)) {t : ab_Ti} (ht : t ∈ T) (q : ab_ti k O p e t = some x) : ae_dn k.1 ρ x (ab_cv L xs h p j) := by
  obtain ⟨i, hi, q⟩ := Option.bind_eq_some_iff.mp q
  obtain ⟨b3, q⟩ := ae_bif q
  obtain ⟨y, h1, q⟩ := Option.bind_eq_some_iff.mp q
  cases q
  obtain ⟨b1, i0, e1, e2, di⟩ := ab_ix_ok hK hd hi
  rcases hT t ht i0 e2 with ⟨g, hg, g1⟩ | g1
  · exact absurd g1 (ab_gf_ok hK hO di (List.all_eq_true.mp b3 g hg))
  · have dy := ae_pls_dn (ab_os_ok hK hO di h1) t.2.2.2.1.1
    subst b1
    rw [e1, g1, Int.add_comm]
    exact dy
theorem ab_fs {α β : Type} {f : α → Option β} : ∀ {l : List α} {b : β}, l.findSome? f = some b → ∃ a ∈ l, f a = some b
  | [], b, q => by cases q
  | a :: r, b, q => by
    rw [List.findSome?_cons] at q
    split at q
    · rename_i c hc
      cases q
      exact ⟨a, List.mem_cons_self, hc⟩
    · obtain ⟨a', h1, h2⟩ := ab_fs q
      exact ⟨a', List.mem_cons_of_mem _ h1, h2⟩
theorem ab_tv_ok (hK : ae_okK ρ k) (hO : ∀ m ∈ O, ae_eo k.1 ρ L xs h m) {T : List ab_Ti} (hT : ab_RI T (ab_cv L xs h)) {p j : Nat} {e x : ae_X} (hd : ae_dn k.1 ρ e (j : Int)) (q : ab_tv k O T p e = some x) : ae_dn k.1 ρ x (ab_cv L xs h p j) := by
  obtain ⟨t, h1, h2⟩ := ab_fs (show T.findSome? (ab_ti k O p e) = some x from q)
  exact ab_ti_ok hK hO hT hd h1 h2
end ABA
/-! a cell is looked at: what is known of it comes into the entries, and into the old ones if it is as it was -/
noncomputable def ab_l0 (T : List ab_Ti) (w : ae_Mo) (k : ae_K) (M O : List ae_M) (p : Nat) (e0 : ae_X) : Option (ae_K × List ae_M × List ae_M) :=
  match ae_fd M p (ae_nr k e0) with
  | some _ => some (k, M, O)
  | none => bif ab_ou k w p (ae_nr k e0) then
      (match ab_fa k O p (ae_nr k e0) with
      | some m => some (k, (p, ae_nr k e0, m.2.2.1, false) :: M, O)
      | none => (match ab_tv k O T p (ae_nr k e0) with
        | some x => (ae_hull k p (ae_nr k e0)).bind fun i => bif Nat.blt i.1 2 && ae_nd k M p (ae_nr k e0) then some (k, (p, ae_nr k e0, (i.1, 0, x), false) :: M, (p, ae_nr k e0, (i.1, 0, x), false) :: O) else none
        | none => (ae_ld false k M p e0).bind fun q => some (q.1, q.2.1, (p, ae_nr k e0, q.2.2, false) :: O)))
    else (ae_ld false k M p e0).bind fun q => some (q.1, q.2.1, O)
section ABB
variable {L : Nat} {xs : Nat → Int32} {ρ : Nat → Int} {k : ae_K} {M O : List ae_M} {h0 h : List am_E} {w : ae_Mo} {T : List ab_Ti}
theorem ab_ou_ok (hK : ae_okK ρ k) {p j : Nat} {e : ae_X} (hd : ae_dn k.1 ρ e (j : Int)) (q : ab_ou k w p e = true) : ae_inm w p j = false :=
  ae_ou_ok (m := (p, e, (0, 0, ae_num 0), false)) hK hd.2 q
theorem ab_hp1 {n : Nat} {m : ae_M} (H : ae_hp false n ρ L xs M h) (hm : ae_eo n ρ L xs h m) : ae_hp false n ρ L xs (m :: M) h :=
  ae_hp_add (A := [m]) H (fun q hq => by rw [List.mem_singleton.mp hq]; exact hm)
theorem ab_l0_ok (hr : ae_rok = true) (hK : ae_okK ρ k) (hH : ae_hp false k.1 ρ L xs M h) (hT : ab_RI T (ab_cv L xs h0)) (hF : ae_fr w L xs h0 h) (hO : ∀ m ∈ O, ae_eo k.1 ρ L xs h0 m) {p j : Nat} {e0 : ae_X} (hd : ae_dn k.1 ρ e0 (j : Int)) (hp : 0 < p) (hp2 : p ≤ ae_np) (hj : j < (ae_sh p).2.2) {z : ae_K × List ae_M × List ae_M} (q : ab_l0 T w k M O p e0 = some z) :
    ∃ ρ', ae_up2 ρ k ρ' z.1 ∧ ae_hp false z.1.1 ρ' L xs z.2.1 h ∧ ∀ m ∈ z.2.2, ae_eo z.1.1 ρ' L xs h0 m := by
  have he := ae_nr_dn hK hd
  obtain ⟨v, hv⟩ := ae_cell_ex (L := L) (xs := xs) hH.1 hp hp2 hj
  have me : ae_up2 ρ k ρ k := ⟨Nat.le_refl _, ae_ag_rf _ _, hK⟩
  unfold ab_l0 at q
  split at q
  · cases q
    exact ⟨ρ, me, hH, hO⟩
  · cases hb : ab_ou k w p (ae_nr k e0) with
    | false =>
      rw [hb] at q
      obtain ⟨⟨k1, M1, a1⟩, h1, q⟩ := Option.bind_eq_some_iff.mp q
      cases q
      obtain ⟨ρ', u, H, -⟩ := ae_ld_ok hr hK hH hd hv (fun _ => ⟨hp2, hj⟩) h1
      exact ⟨ρ', u, H, fun m hm => ae_eo_ext u.1 u.2.1 (hO m hm)⟩
    | true =>
      rw [hb] at q
      have hin := ab_ou_ok hK he hb
      have hv0 : ae_cell L xs h0 p j = some v := (hF p j hin).symm.trans hv
      change (match ab_fa k O p (ae_nr k e0) with
      | some m => some (k, (p, ae_nr k e0, m.2.2.1, false) :: M, O)
      | none => (match ab_tv k O T p (ae_nr k e0) with
        | some x => (ae_hull k p (ae_nr k e0)).bind fun i => bif Nat.blt i.1 2 && ae_nd k M p (ae_nr k e0) then some (k, (p, ae_nr k e0, (i.1, 0, x), false) :: M, (p, ae_nr k e0, (i.1, 0, x), false) :: O) else none
        | none => (ae_ld false k M p e0).bind fun q => some (q.1, q.2.1, (p, ae_nr k e0, q.2.2, false) :: O))) = some z at q
      split at q
      · rename_i m hm
        cases q
        obtain ⟨v', c1, o1⟩ := ab_fa_ok hK hO he hm
        rw [hv0] at c1
        cases c1
        exact ⟨ρ, me, ab_hp1 hH ⟨j, v, he, hv, o1⟩, hO⟩
      · split at q
        · rename_i x hx
          obtain ⟨i, h1, q⟩ := Option.bind_eq_some_iff.mp q
          obtain ⟨hb2, q⟩ := ae_bif q
          cases q
          rw [Bool.and_eq_true] at hb2
          have dx := ab_tv_ok hK hO hT he hx
          have i1 := ae_hull_ok hK hp he.2 h1
          have io : ae_io (ae_iv p j) v := by
            rcases hH.2.2.1 p j v hp hv with g | g | g
            · exact g
            · exact absurd g (ae_nd_ok hK he.2 hb2.2)
            · exact absurd g.1 (by decide)
          have ok : ae_ok k.1 ρ (i.1, 0, x) v := by
            unfold ab_cv at dx
            rw [hv0] at dx
            unfold ae_io at io
            rw [← i1.1] at io
            obtain ⟨i', b, c⟩ := i
            match i', hb2.1, io with
            | 0, _, io => obtain ⟨y, rfl, -⟩ := io; exact ⟨y, rfl, dx⟩
            | 1, _, io => obtain ⟨y, rfl, -⟩ := io; exact ⟨y, rfl, dx⟩
            | t + 2, hb2, _ => exact absurd (Nat.blt_eq.mp hb2) (by show ¬ t + 2 < 2; omega)
          refine ⟨ρ, me, ab_hp1 hH ⟨j, v, he, hv, ok⟩, fun m hm => ?_⟩
          rcases List.mem_cons.mp hm with rfl | hm
          · exact ⟨j, v, he, hv0, ok⟩
          · exact hO m hm
        · obtain ⟨⟨k1, M1, a1⟩, h1, q⟩ := Option.bind_eq_some_iff.mp q
          cases q
          obtain ⟨ρ', u, H, o1⟩ := ae_ld_ok hr hK hH hd hv (fun _ => ⟨hp2, hj⟩) h1
          refine ⟨ρ', u, H, fun m hm => ?_⟩
          rcases List.mem_cons.mp hm with rfl | hm
          · exact ⟨j, v, ae_dn_ext u.1 u.2.1 he, hv0, o1⟩
          · exact ae_eo_ext u.1 u.2.1 (hO m hm)
end ABB
/-! the cells of a tie are looked at first -/
abbrev ab_Lz : Type := ae_K × List ae_M × List ae_M
noncomputable def ab_ls (w : ae_Mo) (z : ab_Lz) (p : Nat) (e : ae_X) : ab_Lz :=
  bif Nat.blt 0 p && Nat.ble p ae_np && ae_rg z.1 e 0 (((ae_sh p).2.2 : Int) - 1) then (match ab_l0 [] w z.1 z.2.1 z.2.2 p e with
    | some y => y
    | none => z) else z
noncomputable def ab_lo (w : ae_Mo) (z : ab_Lz) (p : Nat) (e : ae_X) : ab_Lz := match z with
  | (k, M, O) => (match ae_fd M p (ae_nr k e) with
    | some _ => (k, M, O)
    | none => ab_ls w (k, M, O) p e)
noncomputable def ab_lc (w : ae_Mo) (i : ae_X) : List ab_Tt → ab_Lz → ab_Lz
  | [], z => z
  | t :: r, z => ab_lc w i r (ab_lo w z t.2.1 (ab_at i t.2.2.1 t.2.2.2))
noncomputable def ab_lg (w : ae_Mo) (i : ae_X) : List ab_Gd → ab_Lz → ab_Lz
  | [], z => z
  | g :: r, z => ab_lg w i r (ab_lc w i g.2.2 z)
/-- ties that say but that one of their conditions holds -/
noncomputable def ab_isR (t : ab_Ti) : Bool := ae_ie t.2.2.2.1.1 1 && (match t.2.2.2.1.2 with
  | [q] => ae_ie q.1 1 && Nat.beq q.2.1 t.1 && Nat.beq q.2.2.1 t.2.1 && Nat.beq q.2.2.2 t.st
  | _ => false)
/-- all but the last can't be: the last one is -/
noncomputable def ab_rc (i : ae_X) (k : ae_K) (M O : List ae_M) : List ab_Gd → ab_Lz
  | [] => (k, M, O)
  | [g] => (match ab_os k O i g.2.2 with
    | some y => (match ae_as k (ae_pls (ae_add (ae_scl g.2.1 i) y) g.1) with
      | [k2] => (k2, M, O)
      | _ => (k, M, O))
    | none => (k, M, O))
  | g :: g' :: r => bif ab_gf k O i g then ab_rc i k M O (g' :: r) else (k, M, O)
noncomputable def ab_rf1 (w : ae_Mo) (p : Nat) (e : ae_X) (t : ab_Ti) (z : ab_Lz) : ab_Lz := bif ab_isR t then (match ab_ix z.1 p e t with
  | some i => (match ab_lg w i t.2.2.2.2.1 z with
    | (k, M, O) => ab_rc i k M O t.2.2.2.2.1)
  | none => z) else z
noncomputable def ab_rf (w : ae_Mo) (p : Nat) (e : ae_X) : List ab_Ti → ab_Lz → ab_Lz
  | [], z => z
  | t :: r, z => ab_rf w p e r (ab_rf1 w p e t z)
noncomputable def ab_tr (T : List ab_Ti) (p : Nat) : List ab_Ti := T.filter fun t => Nat.beq t.1 p && ab_isR t
noncomputable def ab_tp (T : List ab_Ti) (p : Nat) : List ab_Ti := T.filter fun t => Nat.beq t.1 p && !(ab_isR t)
/-- of a cell whose index is m + 1 -/
noncomputable def ab_cov (p m : Nat) (t : ab_Ti) : Bool := Nat.beq t.1 p && (Nat.ble t.2.1 (m + 1) && Nat.ble (m + 1) (t.2.1 + t.st * (t.2.2.1 - 1)))
/-- of a place, by sixteens: the list is found once -/
noncomputable def ab_q6 (u : Nat) (t : ab_Ti) : Bool := Nat.ble t.2.1 (16 * u + 15) && Nat.ble (16 * u) (t.2.1 + t.st * (t.2.2.1 - 1))
noncomputable def ab_tr6 (T : List ab_Ti) (p u : Nat) : List ab_Ti := (ab_tr T p).filter (ab_q6 u)
noncomputable def ab_tp6 (T : List ab_Ti) (p u : Nat) : List ab_Ti := (ab_tp T p).filter (ab_q6 u)
noncomputable def ab_trm (T : List ab_Ti) (p m : Nat) : List ab_Ti := af_pl ((m + 1) / 16) fun u => (ab_tr6 T p u).filter (ab_cov p m)
noncomputable def ab_tpm (T : List ab_Ti) (p m : Nat) : List ab_Ti := af_pl ((m + 1) / 16) fun u => (ab_tp6 T p u).filter (ab_cov p m)
theorem ab_trm_mem {T : List ab_Ti} {p m : Nat} {t : ab_Ti} (h : t ∈ ab_trm T p m) : t ∈ T := by
  unfold ab_trm at h
  rw [af_pl_ok] at h
  exact (List.mem_filter.mp (List.mem_filter.mp (List.mem_filter.mp h).1).1).1
theorem ab_tpm_mem {T : List ab_Ti} {p m : Nat} {t : ab_Ti} (h : t ∈ ab_tpm T p m) : t ∈ T := by
  unfold ab_tpm at h
  rw [af_pl_ok] at h
  exact (List.mem_filter.mp (List.mem_filter.mp (List.mem_filter.mp h).1).1).1
noncomputable def ab_tre (T : List ab_Ti) (p : Nat) (e : ae_X) : List ab_Ti := match e with
  | (.ofNat (m + 1), []) => ab_trm T p m
  | _ => ab_tr T p
noncomputable def ab_tpe (T : List ab_Ti) (p : Nat) (e : ae_X) : List ab_Ti := match e with
  | (.ofNat (m + 1), []) => ab_tpm T p m
  | _ => ab_tp T p
noncomputable def ab_rk (T : List ab_Ti) (w : ae_Mo) (p : Nat) (e : ae_X) (z : ab_Lz) : ab_Lz := match ab_tre T p (ae_nr z.1 e) with
  | [] => z
  | t :: r => bif ae_rg z.1 e 0 (((ae_sh p).2.2 : Int) - 1) && ab_ou z.1 w p (ae_nr z.1 e) then ab_rf w p (ae_nr z.1 e) (t :: r) z else z
noncomputable def ab_lcr (T : List ab_Ti) (w : ae_Mo) (i : ae_X) : List ab_Tt → ab_Lz → ab_Lz
  | [], z => z
  | (_, p, b, s) :: r, z => ab_lcr T w i r (ab_rk T w p (ab_at i b s) (ab_lo w z p (ab_at i b s)))
noncomputable def ab_lgr (T : List ab_Ti) (w : ae_Mo) (i : ae_X) : List ab_Gd → ab_Lz → ab_Lz
  | [], z => z
  | g :: r, z => ab_lgr T w i r (ab_lcr T w i g.2.2 z)
/-- a cell that is as it was, and of which nothing is known -/
noncomputable def ab_nf (p : Nat) (e : ae_X) (k : ae_K) (M O : List ae_M) : Option ab_Lz :=
  bif ae_nd k M p e then (ae_hull k p e).bind fun i => (ae_mk k i).bind fun q => (match q with
    | (k2, v) => some (k2, (p, e, v, false) :: M, (p, e, v, false) :: O)) else none
/-- a cell that is as it was, its number told by a tie -/
noncomputable def ab_nt1 (p : Nat) (e x : ae_X) (k : ae_K) (M O : List ae_M) : Option ab_Lz :=
  bif ae_nd k M p e then (ae_hull k p e).bind fun i => (bif Nat.blt i.1 2 then some (k, (p, e, (i.1, 0, x), false) :: M, (p, e, (i.1, 0, x), false) :: O) else none) else none
/-- what a tie tells of its i-th cell -/
noncomputable def ab_tj (k : ae_K) (O : List ae_M) (i : ae_X) (t : ab_Ti) : Option ae_X :=
  bif t.2.2.2.2.1.all (ab_gf k O i) then (ab_os k O i t.2.2.2.1.2).bind fun y => some (ae_pls y t.2.2.2.1.1) else none
noncomputable def ab_lt (T : List ab_Ti) (w : ae_Mo) (p : Nat) (e : ae_X) : List ab_Ti → ab_Lz → Option ab_Lz
  | [], z => (match z with
    | (k, M, O) => (ab_nf p e k M O).map (ab_rk T w p e))
  | t :: r, z => match ab_ix z.1 p e t with
    | some i => (match ab_lcr T w i t.2.2.2.1.2 (ab_lgr T w i t.2.2.2.2.1 z) with
      | (k1, M1, O1) => (match ab_tj k1 O1 i t with
        | some x => ab_nt1 p e x k1 M1 O1
        | none => ab_lt T w p e r (k1, M1, O1)))
    | none => ab_lt T w p e r z
noncomputable def ab_ld (T : List ab_Ti) (w : ae_Mo) (k : ae_K) (M O : List ae_M) (p : Nat) (e0 : ae_X) : Option ab_Lz :=
  match ae_fd M p (ae_nr k e0) with
  | some _ => some (k, M, O)
  | none => (match ab_fa k M p (ae_nr k e0) with
    | some m => some (k, (p, ae_nr k e0, m.2.2.1, false) :: M, O)
    | none => bif ab_ou k w p (ae_nr k e0) then (match ab_fa k O p (ae_nr k e0) with
        | some m => some (k, (p, ae_nr k e0, m.2.2.1, false) :: M, O)
        | none => ab_lt T w p (ae_nr k e0) (ab_tpe T p (ae_nr k e0)) (k, M, O))
      else ab_l0 [] w k M O p e0)
section ABL
variable {L : Nat} {xs : Nat → Int32} {h0 h : List am_E} {w : ae_Mo} {T : List ab_Ti}
noncomputable def ab_lk (L : Nat) (xs : Nat → Int32) (h0 h : List am_E) (ρ : Nat → Int) (z : ab_Lz) : Prop := ae_okK ρ z.1 ∧ ae_hp false z.1.1 ρ L xs z.2.1 h ∧ ∀ m ∈ z.2.2, ae_eo z.1.1 ρ L xs h0 m
theorem ab_RI_nil {f : Nat → Nat → Int} : ab_RI [] f := fun _ h => absurd h List.not_mem_nil
theorem ab_up_rf {ρ : Nat → Int} {k : ae_K} (h : ae_okK ρ k) : ae_up2 ρ k ρ k := ⟨Nat.le_refl _, ae_ag_rf _ _, h⟩
theorem ab_ls_ok (hr : ae_rok = true) (hF : ae_fr w L xs h0 h) {ρ : Nat → Int} {z : ab_Lz} (S : ab_lk L xs h0 h ρ z) {p : Nat} {e : ae_X} (we : ae_wt z.1.1 e.2) : ∃ ρ', ae_up2 ρ z.1 ρ' (ab_ls w z p e).1 ∧ ab_lk L xs h0 h ρ' (ab_ls w z p e) := by
  unfold ab_ls
  cases hb : Nat.blt 0 p && Nat.ble p ae_np && ae_rg z.1 e 0 (((ae_sh p).2.2 : Int) - 1) with
  | false => exact ⟨ρ, ab_up_rf S.1, S⟩
  | true =>
    simp only [Bool.and_eq_true] at hb
    obtain ⟨⟨b1, b2⟩, b3⟩ := hb
    have g := ae_rg_ok S.1 b3
    show ∃ ρ', ae_up2 ρ z.1 ρ' (match ab_l0 [] w z.1 z.2.1 z.2.2 p e with
      | some y => y
      | none => z).1 ∧ ab_lk L xs h0 h ρ' (match ab_l0 [] w z.1 z.2.1 z.2.2 p e with
      | some y => y
      | none => z)
    cases hl : ab_l0 [] w z.1 z.2.1 z.2.2 p e with
    | none => exact ⟨ρ, ab_up_rf S.1, S⟩
    | some y =>
      obtain ⟨ρ', u, H, O⟩ := ab_l0_ok hr S.1 S.2.1 ab_RI_nil hF S.2.2 (p := p) (j := (ae_ev ρ e).toNat) (e0 := e) ⟨we, by omega⟩ (Nat.blt_eq.mp b1) (Nat.le_of_ble_eq_true b2) (by omega) hl
      exact ⟨ρ', u, u.2.2, H, O⟩
theorem ab_lo_ok (hr : ae_rok = true) (hF : ae_fr w L xs h0 h) {ρ : Nat → Int} {z : ab_Lz} (S : ab_lk L xs h0 h ρ z) {p : Nat} {e : ae_X} (we : ae_wt z.1.1 e.2) : ∃ ρ', ae_up2 ρ z.1 ρ' (ab_lo w z p e).1 ∧ ab_lk L xs h0 h ρ' (ab_lo w z p e) := by
  obtain ⟨k, M, O⟩ := z
  show ∃ ρ', ae_up2 ρ k ρ' (match ae_fd M p (ae_nr k e) with
    | some _ => (k, M, O)
    | none => ab_ls w (k, M, O) p e).1 ∧ ab_lk L xs h0 h ρ' (match ae_fd M p (ae_nr k e) with
    | some _ => (k, M, O)
    | none => ab_ls w (k, M, O) p e)
  cases ae_fd M p (ae_nr k e) with
  | some m => exact ⟨ρ, ab_up_rf S.1, S⟩
  | none => exact ab_ls_ok hr hF S we
theorem ab_at_wt {n : Nat} {i : ae_X} {b s : Nat} (h : ae_wt n i.2) : ae_wt n (ab_at i b s).2 := by
  match s with
  | 0 => trivial
  | 1 => exact h
  | s + 2 => exact (ae_scl_dn (ρ := fun _ => 0) ⟨h, rfl⟩ ((s + 2 : Nat) : Int)).1
theorem ab_lc_ok (hr : ae_rok = true) (hF : ae_fr w L xs h0 h) : ∀ {l : List ab_Tt} {i : ae_X} {ρ : Nat → Int} {z : ab_Lz}, ab_lk L xs h0 h ρ z → ae_wt z.1.1 i.2 → ∃ ρ', ae_up2 ρ z.1 ρ' (ab_lc w i l z).1 ∧ ab_lk L xs h0 h ρ' (ab_lc w i l z)
  | [], i, ρ, z, S, _ => ⟨ρ, ab_up_rf S.1, S⟩
  | t :: r, i, ρ, z, S, wi => by
    obtain ⟨ρ1, u1, S1⟩ := ab_lo_ok hr hF S (p := t.2.1) (e := ab_at i t.2.2.1 t.2.2.2) (ab_at_wt wi)
    obtain ⟨ρ2, u2, S2⟩ := ab_lc_ok hr hF (l := r) (i := i) S1 (ae_wt_le u1.1 wi)
    exact ⟨ρ2, u1.tr u2, S2⟩
theorem ab_lg_ok (hr : ae_rok = true) (hF : ae_fr w L xs h0 h) : ∀ {l : List ab_Gd} {i : ae_X} {ρ : Nat → Int} {z : ab_Lz}, ab_lk L xs h0 h ρ z → ae_wt z.1.1 i.2 → ∃ ρ', ae_up2 ρ z.1 ρ' (ab_lg w i l z).1 ∧ ab_lk L xs h0 h ρ' (ab_lg w i l z)
  | [], i, ρ, z, S, _ => ⟨ρ, ab_up_rf S.1, S⟩
  | g :: r, i, ρ, z, S, wi => by
    obtain ⟨ρ1, u1, S1⟩ := ab_lc_ok hr hF (l := g.2.2) (i := i) S wi
    obtain ⟨ρ2, u2, S2⟩ := ab_lg_ok hr hF (l := r) (i := i) S1 (ae_wt_le u1.1 wi)
    exact ⟨ρ2, u1.tr u2, S2⟩
theorem ab_isR_ok {t : ab_Ti} (q : ab_isR t = true) {f : Nat → Nat → Int} {i : Nat} (h : ab_hold f t i) : ∃ g ∈ t.2.2.2.2.1, ab_gd f i g ≤ 0 := by
  rcases h with h | h
  · exact h
  · exfalso
    unfold ab_isR at q
    rw [Bool.and_eq_true] at q
    obtain ⟨q1, q2⟩ := q
    have q1 := ae_ie_ok q1
    split at q2
    · rename_i c hc
      simp only [Bool.and_eq_true] at q2
      obtain ⟨⟨⟨a1, a2⟩, a3⟩, a4⟩ := q2
      rw [hc, q1] at h
      have h : f t.1 (t.2.1 + t.st * i) = 1 + (c.1 * f c.2.1 (c.2.2.1 + c.2.2.2 * i) + 0) := h
      rw [ae_ie_ok a1, Nat.eq_of_beq_eq_true a2, Nat.eq_of_beq_eq_true a3, Nat.eq_of_beq_eq_true a4] at h
      omega
    · cases q2
theorem ab_rc_ok {ρ : Nat → Int} {i : ae_X} {i0 : Nat} {k : ae_K} {M O : List ae_M} (S : ab_lk L xs h0 h ρ (k, M, O)) (di : ae_dn k.1 ρ i (i0 : Int)) : ∀ {l : List ab_Gd}, (∃ g ∈ l, ab_gd (ab_cv L xs h0) i0 g ≤ 0) → ∃ ρ', ae_up2 ρ k ρ' (ab_rc i k M O l).1 ∧ ab_lk L xs h0 h ρ' (ab_rc i k M O l)
  | [], hg => by obtain ⟨g, m, -⟩ := hg; exact absurd m List.not_mem_nil
  | [g], hg => by
    have same : ∃ ρ', ae_up2 ρ k ρ' k ∧ ab_lk L xs h0 h ρ' (k, M, O) := ⟨ρ, ab_up_rf S.1, S⟩
    obtain ⟨g', m', hg'⟩ := hg
    obtain rfl := List.mem_singleton.mp m'
    unfold ab_rc
    split
    · rename_i y hy
      split
      · rename_i k2 hk
        have d := ab_os_ok S.1 S.2.2 di hy
        have d2 := ae_pls_dn (ae_add_dn (ae_scl_dn di g'.2.1) d) g'.1
        unfold ab_gd at hg'
        obtain ⟨k3, m3, K3, n3⟩ := ae_as_ok S.1 d2 (by omega)
        rw [hk] at m3
        obtain rfl := List.mem_singleton.mp m3
        have n3 : k3.1 = k.1 := n3
        refine ⟨ρ, ⟨by show k.1 ≤ k3.1; omega, ae_ag_rf _ _, K3⟩, K3, ?_, ?_⟩
        · show ae_hp false k3.1 ρ L xs M h
          rw [n3]; exact S.2.1
        · show ∀ m ∈ O, ae_eo k3.1 ρ L xs h0 m
          rw [n3]; exact S.2.2
      · exact same
    · exact same
  | g :: g' :: r, hg => by
    unfold ab_rc
    cases hb : ab_gf k O i g with
    | false => exact ⟨ρ, ab_up_rf S.1, S⟩
    | true =>
      refine ab_rc_ok S di (l := g' :: r) ?_
      obtain ⟨g2, m2, h2⟩ := hg
      rcases List.mem_cons.mp m2 with rfl | m2
      · exact absurd h2 (ab_gf_ok S.1 S.2.2 di hb)
      · exact ⟨g2, m2, h2⟩
theorem ab_rf_ok (hr : ae_rok = true) (hF : ae_fr w L xs h0 h) {p j : Nat} {e : ae_X} : ∀ {T : List ab_Ti}, ab_RI T (ab_cv L xs h0) → ∀ {ρ : Nat → Int} {z : ab_Lz}, ab_lk L xs h0 h ρ z → ae_dn z.1.1 ρ e (j : Int) → ∃ ρ', ae_up2 ρ z.1 ρ' (ab_rf w p e T z).1 ∧ ab_lk L xs h0 h ρ' (ab_rf w p e T z)
  | [], _, ρ, z, S, _ => ⟨ρ, ab_up_rf S.1, S⟩
  | t :: r, hT, ρ, z, S, hd => by
    have one : ∃ ρ', ae_up2 ρ z.1 ρ' (ab_rf1 w p e t z).1 ∧ ab_lk L xs h0 h ρ' (ab_rf1 w p e t z) := by
      unfold ab_rf1
      cases hR : ab_isR t with
      | false => exact ⟨ρ, ab_up_rf S.1, S⟩
      | true =>
        cases hb : ab_ix z.1 p e t with
        | none => exact ⟨ρ, ab_up_rf S.1, S⟩
        | some i =>
          obtain ⟨-, i0, -, i2, di⟩ := ab_ix_ok S.1 hd hb
          obtain ⟨ρ1, u1, S1⟩ := ab_lg_ok hr hF (l := t.2.2.2.2.1) (i := i) S di.1
          have di1 := ae_dn_ext u1.1 u1.2.1 di
          show ∃ ρ', ae_up2 ρ z.1 ρ' (match ab_lg w i t.2.2.2.2.1 z with
            | (k, M, O) => ab_rc i k M O t.2.2.2.2.1).1 ∧ ab_lk L xs h0 h ρ' (match ab_lg w i t.2.2.2.2.1 z with
            | (k, M, O) => ab_rc i k M O t.2.2.2.2.1)
          generalize ab_lg w i t.2.2.2.2.1 z = y at u1 S1 di1
          obtain ⟨k, M, O⟩ := y
          obtain ⟨ρ2, u2, S2⟩ := ab_rc_ok S1 di1 (ab_isR_ok hR (hT t List.mem_cons_self i0 i2))
          exact ⟨ρ2, u1.tr u2, S2⟩
    obtain ⟨ρ1, u1, S1⟩ := one
    obtain ⟨ρ2, u2, S2⟩ := ab_rf_ok hr hF (T := r) (fun u hu => hT u (List.mem_cons_of_mem _ hu)) S1 (ae_dn_ext u1.1 u1.2.1 hd)
    exact ⟨ρ2, u1.tr u2, S2⟩
theorem ab_tr_RI {T : List ab_Ti} {f : Nat → Nat → Int} {p : Nat} (h : ab_RI T f) : ab_RI (ab_tr T p) f := fun t ht => h t (List.mem_filter.mp ht).1
theorem ab_tp_RI {T : List ab_Ti} {f : Nat → Nat → Int} {p : Nat} (h : ab_RI T f) : ab_RI (ab_tp T p) f := fun t ht => h t (List.mem_filter.mp ht).1
theorem ab_tre_RI {T : List ab_Ti} {f : Nat → Nat → Int} {p : Nat} {e : ae_X} (h : ab_RI T f) : ab_RI (ab_tre T p e) f := by
  unfold ab_tre
  split
  · exact fun t ht => h t (ab_trm_mem ht)
  · exact ab_tr_RI h
theorem ab_tpe_RI {T : List ab_Ti} {f : Nat → Nat → Int} {p : Nat} {e : ae_X} (h : ab_RI T f) : ab_RI (ab_tpe T p e) f := by
  unfold ab_tpe
  split
  · exact fun t ht => h t (ab_tpm_mem ht)
  · exact ab_tp_RI h
theorem ab_rk_ok (hr : ae_rok = true) (hF : ae_fr w L xs h0 h) {p : Nat} {e : ae_X} {T : List ab_Ti} (hT : ab_RI T (ab_cv L xs h0)) {ρ : Nat → Int} {z : ab_Lz} (S : ab_lk L xs h0 h ρ z) (we : ae_wt z.1.1 e.2) : ∃ ρ', ae_up2 ρ z.1 ρ' (ab_rk T w p e z).1 ∧ ab_lk L xs h0 h ρ' (ab_rk T w p e z) := by
  have hT2 := ab_tre_RI (p := p) (e := ae_nr z.1 e) hT
  unfold ab_rk
  split
  · exact ⟨ρ, ab_up_rf S.1, S⟩
  · rename_i u r hur
    rw [hur] at hT2
    cases hb : ae_rg z.1 e 0 (((ae_sh p).2.2 : Int) - 1) && ab_ou z.1 w p (ae_nr z.1 e) with
    | false => exact ⟨ρ, ab_up_rf S.1, S⟩
    | true =>
      rw [Bool.and_eq_true] at hb
      have g := ae_rg_ok S.1 hb.1
      have d : ae_dn z.1.1 ρ e (((ae_ev ρ e).toNat : Nat) : Int) := ⟨we, by omega⟩
      exact ab_rf_ok hr hF hT2 S (ae_nr_dn S.1 d)
theorem ab_lcr_ok (hr : ae_rok = true) (hF : ae_fr w L xs h0 h) {T : List ab_Ti} (hT : ab_RI T (ab_cv L xs h0)) : ∀ {l : List ab_Tt} {i : ae_X} {ρ : Nat → Int} {z : ab_Lz}, ab_lk L xs h0 h ρ z → ae_wt z.1.1 i.2 → ∃ ρ', ae_up2 ρ z.1 ρ' (ab_lcr T w i l z).1 ∧ ab_lk L xs h0 h ρ' (ab_lcr T w i l z)
  | [], i, ρ, z, S, _ => ⟨ρ, ab_up_rf S.1, S⟩
  | (c, p, b, s) :: r, i, ρ, z, S, wi => by
    obtain ⟨ρ1, u1, S1⟩ := ab_lo_ok hr hF S (p := p) (e := ab_at i b s) (ab_at_wt wi)
    obtain ⟨ρ3, u3, S3⟩ := ab_rk_ok hr hF hT S1 (p := p) (e := ab_at i b s) (ae_wt_le u1.1 (ab_at_wt wi))
    have u := u1.tr u3
    obtain ⟨ρ2, u2, S2⟩ := ab_lcr_ok hr hF hT (l := r) (i := i) S3 (ae_wt_le u.1 wi)
    exact ⟨ρ2, u.tr u2, S2⟩
theorem ab_lgr_ok (hr : ae_rok = true) (hF : ae_fr w L xs h0 h) {T : List ab_Ti} (hT : ab_RI T (ab_cv L xs h0)) : ∀ {l : List ab_Gd} {i : ae_X} {ρ : Nat → Int} {z : ab_Lz}, ab_lk L xs h0 h ρ z → ae_wt z.1.1 i.2 → ∃ ρ', ae_up2 ρ z.1 ρ' (ab_lgr T w i l z).1 ∧ ab_lk L xs h0 h ρ' (ab_lgr T w i l z)
  | [], i, ρ, z, S, _ => ⟨ρ, ab_up_rf S.1, S⟩
  | g :: r, i, ρ, z, S, wi => by
    obtain ⟨ρ1, u1, S1⟩ := ab_lcr_ok hr hF hT (l := g.2.2) (i := i) S wi
    obtain ⟨ρ2, u2, S2⟩ := ab_lgr_ok hr hF hT (l := r) (i := i) S1 (ae_wt_le u1.1 wi)
    exact ⟨ρ2, u1.tr u2, S2⟩
theorem ab_nf_ok (hr : ae_rok = true) (hF : ae_fr w L xs h0 h) {p j : Nat} {e : ae_X} (hp : 0 < p) (hp2 : p ≤ ae_np) (hj : j < (ae_sh p).2.2) (hin : ae_inm w p j = false) {ρ : Nat → Int} {k : ae_K} {M O : List ae_M} {y : ab_Lz} (S : ab_lk L xs h0 h ρ (k, M, O)) (he : ae_dn k.1 ρ e (j : Int)) (q : ab_nf p e k M O = some y) : ∃ ρ', ae_up2 ρ k ρ' y.1 ∧ ab_lk L xs h0 h ρ' y := by
  obtain ⟨hb, q⟩ := ae_bif q
  obtain ⟨z, h1, q⟩ := Option.bind_eq_some_iff.mp q
  obtain ⟨⟨k1, a1⟩, h2, q⟩ := Option.bind_eq_some_iff.mp q
  cases q
  obtain ⟨v, hv⟩ := ae_cell_ex (L := L) (xs := xs) S.2.1.1 hp hp2 hj
  have hv0 : ae_cell L xs h0 p j = some v := (hF p j hin).symm.trans hv
  have io : ae_io (ae_iv p j) v := by
    rcases S.2.1.2.2.1 p j v hp hv with g | g | g
    · exact g
    · exact absurd g (ae_nd_ok S.1 he.2 hb)
    · exact absurd g.1 (by decide)
  obtain ⟨ρ', u, ok⟩ := ae_mk_ok S.1 (ae_hull_ok S.1 hp he.2 h1) (fun h2 => ae_iv_ref h2 hr hp2 hj) io h2
  have eo : ∀ {h' : List am_E}, ae_cell L xs h' p j = some v → ae_eo k1.1 ρ' L xs h' (p, e, a1, false) := fun hc => ⟨j, v, ae_dn_ext u.1 u.2.1 he, hc, ok⟩
  refine ⟨ρ', u, u.2.2, ab_hp1 (ae_hp_ext u.1 u.2.1 S.2.1) (eo hv), fun m hm => ?_⟩
  rcases List.mem_cons.mp hm with rfl | hm
  · exact eo hv0
  · exact ae_eo_ext u.1 u.2.1 (S.2.2 m hm)
theorem ab_nt1_ok (hF : ae_fr w L xs h0 h) {p j : Nat} {e x : ae_X} (hp : 0 < p) (hp2 : p ≤ ae_np) (hj : j < (ae_sh p).2.2) (hin : ae_inm w p j = false) {ρ : Nat → Int} {k : ae_K} {M O : List ae_M} {y : ab_Lz} (S : ab_lk L xs h0 h ρ (k, M, O)) (he : ae_dn k.1 ρ e (j : Int)) (dx : ae_dn k.1 ρ x (ab_cv L xs h0 p j)) (q : ab_nt1 p e x k M O = some y) : ∃ ρ', ae_up2 ρ k ρ' y.1 ∧ ab_lk L xs h0 h ρ' y := by
  obtain ⟨hb, q⟩ := ae_bif q
  obtain ⟨i, h1, q⟩ := Option.bind_eq_some_iff.mp q
  obtain ⟨hb2, q⟩ := ae_bif q
  cases q
  obtain ⟨v, hv⟩ := ae_cell_ex (L := L) (xs := xs) S.2.1.1 hp hp2 hj
  have hv0 : ae_cell L xs h0 p j = some v := (hF p j hin).symm.trans hv
  have i1 := ae_hull_ok S.1 hp he.2 h1
  have io : ae_io (ae_iv p j) v := by
    rcases S.2.1.2.2.1 p j v hp hv with g | g | g
    · exact g
    · exact absurd g (ae_nd_ok S.1 he.2 hb)
    · exact absurd g.1 (by decide)
  have ok : ae_ok k.1 ρ (i.1, 0, x) v := by
    unfold ab_cv at dx
    rw [hv0] at dx
    unfold ae_io at io
    rw [← i1.1] at io
    obtain ⟨i', b, c⟩ := i
    match i', hb2, io with
    | 0, _, io => obtain ⟨y, rfl, -⟩ := io; exact ⟨y, rfl, dx⟩
    | 1, _, io => obtain ⟨y, rfl, -⟩ := io; exact ⟨y, rfl, dx⟩
    | t + 2, hb2, _ => exact absurd (Nat.blt_eq.mp hb2) (by show ¬ t + 2 < 2; omega)
  refine ⟨ρ, ab_up_rf S.1, S.1, ab_hp1 S.2.1 ⟨j, v, he, hv, ok⟩, fun m hm => ?_⟩
  rcases List.mem_cons.mp hm with rfl | hm
  · exact ⟨j, v, he, hv0, ok⟩
  · exact S.2.2 m hm
theorem ab_lt_ok (hr : ae_rok = true) (hF : ae_fr w L xs h0 h) {p j : Nat} {e : ae_X} (hp : 0 < p) (hp2 : p ≤ ae_np) (hj : j < (ae_sh p).2.2) (hin : ae_inm w p j = false) {TT : List ab_Ti} (hTT : ab_RI TT (ab_cv L xs h0)) : ∀ {T : List ab_Ti}, ab_RI T (ab_cv L xs h0) → ∀ {ρ : Nat → Int} {z y : ab_Lz}, ab_lk L xs h0 h ρ z → ae_dn z.1.1 ρ e (j : Int) → ab_lt TT w p e T z = some y → ∃ ρ', ae_up2 ρ z.1 ρ' y.1 ∧ ab_lk L xs h0 h ρ' y
  | [], _, ρ, z, y, S, hd, q => by
    obtain ⟨k, M, O⟩ := z
    have q : (ab_nf p e k M O).map (ab_rk TT w p e) = some y := q
    obtain ⟨y', hl, rfl⟩ := Option.map_eq_some_iff.mp q
    obtain ⟨ρ', u, S1⟩ := ab_nf_ok hr hF hp hp2 hj hin S hd hl
    obtain ⟨ρ2, u2, S2⟩ := ab_rk_ok hr hF hTT (p := p) (e := e) S1 (ae_wt_le u.1 hd.1)
    exact ⟨ρ2, u.tr u2, S2⟩
  | t :: r, hT, ρ, z, y, S, hd, q => by
    have hT2 : ab_RI r (ab_cv L xs h0) := fun u hu => hT u (List.mem_cons_of_mem _ hu)
    unfold ab_lt at q
    cases hb : ab_ix z.1 p e t with
    | none => rw [hb] at q; exact ab_lt_ok hr hF hp hp2 hj hin hTT hT2 S hd q
    | some i =>
      rw [hb] at q
      change (match ab_lcr TT w i t.2.2.2.1.2 (ab_lgr TT w i t.2.2.2.2.1 z) with
        | (k1, M1, O1) => (match ab_tj k1 O1 i t with
          | some x => ab_nt1 p e x k1 M1 O1
          | none => ab_lt TT w p e r (k1, M1, O1))) = some y at q
      obtain ⟨b1, i0, i1, i2, di⟩ := ab_ix_ok S.1 hd hb
      obtain ⟨ρ1, u1, S1⟩ := ab_lgr_ok hr hF hTT (l := t.2.2.2.2.1) (i := i) S di.1
      obtain ⟨ρ2, u2, S2⟩ := ab_lcr_ok hr hF hTT (l := t.2.2.2.1.2) (i := i) S1 (ae_wt_le u1.1 di.1)
      have u := u1.tr u2
      generalize ab_lcr TT w i t.2.2.2.1.2 (ab_lgr TT w i t.2.2.2.2.1 z) = z2 at q u S2
      obtain ⟨k1, M1, O1⟩ := z2
      have hd2 : ae_dn k1.1 ρ2 e (j : Int) := ae_dn_ext u.1 u.2.1 hd
      have di2 : ae_dn k1.1 ρ2 i (i0 : Int) := ae_dn_ext u.1 u.2.1 di
      change (match ab_tj k1 O1 i t with
        | some x => ab_nt1 p e x k1 M1 O1
        | none => ab_lt TT w p e r (k1, M1, O1)) = some y at q
      split at q
      · rename_i x hx
        obtain ⟨b3, hx⟩ := ae_bif hx
        obtain ⟨y', h1, hx⟩ := Option.bind_eq_some_iff.mp hx
        cases hx
        have dx : ae_dn k1.1 ρ2 (ae_pls y' t.2.2.2.1.1) (ab_cv L xs h0 p j) := by
          rcases hT t List.mem_cons_self i0 i2 with ⟨g, hg, g1⟩ | g1
          · exact absurd g1 (ab_gf_ok S2.1 S2.2.2 di2 (List.all_eq_true.mp b3 g hg))
          · have dy := ae_pls_dn (ab_os_ok S2.1 S2.2.2 di2 h1) t.2.2.2.1.1
            subst b1
            rw [i1, g1, Int.add_comm]
            exact dy
        obtain ⟨ρ', u', S3⟩ := ab_nt1_ok hF hp hp2 hj hin S2 hd2 dx q
        exact ⟨ρ', u.tr u', S3⟩
      · obtain ⟨ρ', u', S3⟩ := ab_lt_ok hr hF hp hp2 hj hin hTT hT2 S2 hd2 q
        exact ⟨ρ', u.tr u', S3⟩
theorem ab_ld_ok (hr : ae_rok = true) {ρ : Nat → Int} {k : ae_K} {M O : List ae_M} (hK : ae_okK ρ k) (hH : ae_hp false k.1 ρ L xs M h) (hT : ab_RI T (ab_cv L xs h0)) (hF : ae_fr w L xs h0 h) (hO : ∀ m ∈ O, ae_eo k.1 ρ L xs h0 m) {p j : Nat} {e0 : ae_X} (hd : ae_dn k.1 ρ e0 (j : Int)) (hp : 0 < p) (hp2 : p ≤ ae_np) (hj : j < (ae_sh p).2.2) {z : ab_Lz} (q : ab_ld T w k M O p e0 = some z) :
    ∃ ρ', ae_up2 ρ k ρ' z.1 ∧ ae_hp false z.1.1 ρ' L xs z.2.1 h ∧ ∀ m ∈ z.2.2, ae_eo z.1.1 ρ' L xs h0 m := by
  have he := ae_nr_dn hK hd
  obtain ⟨v, hv⟩ := ae_cell_ex (L := L) (xs := xs) hH.1 hp hp2 hj
  unfold ab_ld at q
  split at q
  · cases q
    exact ⟨ρ, ab_up_rf hK, hH, hO⟩
  · split at q
    · rename_i m hm
      cases q
      obtain ⟨v', c1, o1⟩ := ab_fa_ok hK hH.2.1 he hm
      exact ⟨ρ, ab_up_rf hK, ab_hp1 hH ⟨j, v', he, c1, o1⟩, hO⟩
    · cases hb : ab_ou k w p (ae_nr k e0) with
      | false =>
        rw [hb] at q
        exact ab_l0_ok hr hK hH ab_RI_nil hF hO hd hp hp2 hj q
      | true =>
        rw [hb] at q
        have hin := ab_ou_ok hK he hb
        have hv0 : ae_cell L xs h0 p j = some v := (hF p j hin).symm.trans hv
        change (match ab_fa k O p (ae_nr k e0) with
        | some m => some (k, (p, ae_nr k e0, m.2.2.1, false) :: M, O)
        | none => ab_lt T w p (ae_nr k e0) (ab_tpe T p (ae_nr k e0)) (k, M, O)) = some z at q
        split at q
        · rename_i m hm
          cases q
          obtain ⟨v', c1, o1⟩ := ab_fa_ok hK hO he hm
          rw [hv0] at c1
          cases c1
          exact ⟨ρ, ab_up_rf hK, ab_hp1 hH ⟨j, v, he, hv, o1⟩, hO⟩
        · obtain ⟨ρ', u, S⟩ := ab_lt_ok hr hF hp hp2 hj hin hT (ab_tpe_RI hT) (z := (k, M, O)) ⟨hK, hH, hO⟩ he q
          exact ⟨ρ', u, S.2.1, S.2.2⟩
end ABL
/-! whether ties hold now -/
noncomputable def ab_cur (k : ae_K) (M O : List ae_M) (w : ae_Mo) (p j : Nat) : Option ae_X := match ab_ov k M p (ae_num (j : Int)) with
  | some x => some x
  | none => bif ae_inm w p j then none else ab_ov k O p (ae_num (j : Int))
noncomputable def ab_cs (k : ae_K) (M O : List ae_M) (w : ae_Mo) (i : Nat) : List ab_Tt → Option ae_X
  | [] => some (ae_num 0)
  | t :: r => (ab_cur k M O w t.2.1 (t.2.2.1 + t.2.2.2 * i)).bind fun x => (ab_cs k M O w i r).bind fun y => some (ae_add (ae_scl t.1 x) y)
noncomputable def ab_utl (w : ae_Mo) (i : Nat) (l : List ab_Tt) : Bool := l.all fun t => !(ae_inm w t.2.1 (t.2.2.1 + t.2.2.2 * i))
/-- a sum's new value less its old one -/
noncomputable def ab_df (k : ae_K) (M O : List ae_M) (w : ae_Mo) (i : Nat) : List ab_Tt → Option ae_X
  | [] => some (ae_num 0)
  | t :: r => (ab_df k M O w i r).bind fun y => bif ae_inm w t.2.1 (t.2.2.1 + t.2.2.2 * i) then (ab_ov k M t.2.1 (ae_num ((t.2.2.1 + t.2.2.2 * i : Nat) : Int))).bind fun x => (ab_ov k O t.2.1 (ae_num ((t.2.2.1 + t.2.2.2 * i : Nat) : Int))).bind fun o => some (ae_add (ae_scl t.1 (ae_sub x o)) y) else some y
noncomputable def ab_gm (k : ae_K) (M O : List ae_M) (w : ae_Mo) (i : Nat) (g : ab_Gd) : Bool := match ab_df k M O w i g.2.2 with
  | some e => ae_z k e
  | none => false
noncomputable def ab_gn (k : ae_K) (M O : List ae_M) (w : ae_Mo) (i : Nat) (g : ab_Gd) : Bool := match ab_cs k M O w i g.2.2 with
  | some y => ae_z k (ae_pls y (g.1 + g.2.1 * (i : Int)))
  | none => false
noncomputable def ab_en (k : ae_K) (M O : List ae_M) (w : ae_Mo) (t : ab_Ti) (i : Nat) : Bool := match ab_cur k M O w t.1 (t.2.1 + t.st * i) with
  | some x => (match ab_cs k M O w i t.2.2.2.1.2 with
    | some y => ae_rg k (ae_sub x y) t.2.2.2.1.1 t.2.2.2.1.1
    | none => false)
  | none => false
noncomputable def ab_r1 (k : ae_K) (M O : List ae_M) (w : ae_Mo) (s : Bool) (t : ab_Ti) (i : Nat) : Bool :=
  (s && !(ae_inm w t.1 (t.2.1 + t.st * i)) && ab_utl w i t.2.2.2.1.2 && t.2.2.2.2.1.all fun g => ab_utl w i g.2.2 || ab_gm k M O w i g || ab_gf k O (ae_num (i : Int)) g) || ab_en k M O w t i || t.2.2.2.2.1.reverse.any (ab_gn k M O w i)
/-- by matching, the cheapest first -/
noncomputable def ab_ql {α : Type} (e : α → α → Bool) (l m : List α) : Bool := List.rec (motive := fun _ => List α → Bool) (fun m => match m with
    | [] => true
    | _ :: _ => false) (fun a _ ih m => match m with
    | [] => false
    | b :: t => bif e a b then ih t else false) l m
noncomputable def ab_q3 (a b : ab_Tt) : Bool := match a with
  | (a1, a2, a3, a4) => (match b with
    | (b1, b2, b3, b4) => bif Nat.beq a3 b3 then (bif Nat.beq a2 b2 then (bif Nat.beq a4 b4 then ae_ie a1 b1 else false) else false) else false)
noncomputable def ab_qg (a b : ab_Gd) : Bool := match a with
  | (a1, a2, a3) => (match b with
    | (b1, b2, b3) => bif ae_ie a1 b1 then (bif ae_ie a2 b2 then ab_ql ab_q3 a3 b3 else false) else false)
noncomputable def ai_q2 (a b : Nat × (Int × List ab_Tt) × List ab_Gd × Nat) : Bool := match a with
  | (a3, (a4, a5), a6, a7) => (match b with
    | (b3, (b4, b5), b6, b7) => bif Nat.beq a3 b3 then (bif Nat.beq a7 b7 then (bif ae_ie a4 b4 then (bif ab_ql ab_q3 a5 b5 then ab_ql ab_qg a6 b6 else false) else false) else false) else false)
noncomputable def ai_q1 (a b : Nat × Nat × (Int × List ab_Tt) × List ab_Gd × Nat) : Bool := Prod.rec (motive := fun _ => Bool) (fun a2 r => Prod.rec (motive := fun _ => Bool) (fun b2 s => Bool.rec (motive := fun _ => Bool) false (ai_q2 r s) (Nat.beq a2 b2)) b) a
noncomputable def ab_qt (a b : ab_Ti) : Bool := Prod.rec (motive := fun _ => Bool) (fun a1 r => Prod.rec (motive := fun _ => Bool) (fun b1 s => Bool.rec (motive := fun _ => Bool) false (ai_q1 r s) (Nat.beq a1 b1)) b) a
theorem ai_brec {b c : Bool} (h : Bool.rec (motive := fun _ => Bool) false c b = true) : b = true ∧ c = true := by
  cases b with
  | true => exact ⟨rfl, h⟩
  | false => cases h
theorem ab_ql_ok {α : Type} {e : α → α → Bool} (h : ∀ a b, e a b = true → a = b) : ∀ {a b : List α}, ab_ql e a b = true → a = b
  | [], [], _ => rfl
  | a :: r, b :: t, q => by
    obtain ⟨q1, q2⟩ := ai_bif (show (bif e a b then ab_ql e r t else false) = true from q)
    rw [h a b q1, ab_ql_ok h q2]
  | [], _ :: _, q => by cases q
  | _ :: _, [], q => by cases q
theorem ab_q3_ok (a b : ab_Tt) (q : ab_q3 a b = true) : a = b := by
  obtain ⟨a1, a2, a3, a4⟩ := a
  obtain ⟨b1, b2, b3, b4⟩ := b
  obtain ⟨q3, q⟩ := ai_bif (show (bif Nat.beq a3 b3 then (bif Nat.beq a2 b2 then (bif Nat.beq a4 b4 then ae_ie a1 b1 else false) else false) else false) = true from q)
  obtain ⟨q2, q⟩ := ai_bif q
  obtain ⟨q4, q⟩ := ai_bif q
  have e1 : a1 = b1 := ae_ie_ok q
  have e2 : a2 = b2 := Nat.eq_of_beq_eq_true q2
  have e3 : a3 = b3 := Nat.eq_of_beq_eq_true q3
  have e4 : a4 = b4 := Nat.eq_of_beq_eq_true q4
  rw [e1, e2, e3, e4]
theorem ab_qg_ok (a b : ab_Gd) (q : ab_qg a b = true) : a = b := by
  obtain ⟨a1, a2, a3⟩ := a
  obtain ⟨b1, b2, b3⟩ := b
  obtain ⟨q1, q⟩ := ai_bif (show (bif ae_ie a1 b1 then (bif ae_ie a2 b2 then ab_ql ab_q3 a3 b3 else false) else false) = true from q)
  obtain ⟨q2, q⟩ := ai_bif q
  have e1 : a1 = b1 := ae_ie_ok q1
  have e2 : a2 = b2 := ae_ie_ok q2
  have e3 : a3 = b3 := ab_ql_ok ab_q3_ok q
  rw [e1, e2, e3]
theorem ab_qt_ok (a b : ab_Ti) (q : ab_qt a b = true) : a = b := by
  obtain ⟨a1, a2, a3, ⟨a4, a5⟩, a6, a7⟩ := a
  obtain ⟨b1, b2, b3, ⟨b4, b5⟩, b6, b7⟩ := b
  obtain ⟨q1, q⟩ := ai_brec (show Bool.rec (motive := fun _ => Bool) false (ai_q1 (a2, a3, (a4, a5), a6, a7) (b2, b3, (b4, b5), b6, b7)) (Nat.beq a1 b1) = true from q)
  obtain ⟨q2, q⟩ := ai_brec (show Bool.rec (motive := fun _ => Bool) false (ai_q2 (a3, (a4, a5), a6, a7) (b3, (b4, b5), b6, b7)) (Nat.beq a2 b2) = true from q)
  obtain ⟨q3, q⟩ := ai_bif (show (bif Nat.beq a3 b3 then (bif Nat.beq a7 b7 then (bif ae_ie a4 b4 then (bif ab_ql ab_q3 a5 b5 then ab_ql ab_qg a6 b6 else false) else false) else false) else false) = true from q)
  obtain ⟨q7, q⟩ := ai_bif q
  obtain ⟨q4, q⟩ := ai_bif q
  obtain ⟨q5, q6⟩ := ai_bif q
  have e1 : a1 = b1 := Nat.eq_of_beq_eq_true q1
  have e2 : a2 = b2 := Nat.eq_of_beq_eq_true q2
  have e3 : a3 = b3 := Nat.eq_of_beq_eq_true q3
  have e4 : a4 = b4 := ae_ie_ok q4
  have e5 : a5 = b5 := ab_ql_ok ab_q3_ok q5
  have e6 : a6 = b6 := ab_ql_ok ab_qg_ok q6
  have e7 : a7 = b7 := Nat.eq_of_beq_eq_true q7
  rw [e1, e2, e3, e4, e5, e6, e7]
noncomputable def ab_ric (k : ae_K) (M O : List ae_M) (w : ae_Mo) (T T' : List ab_Ti) : Bool := bif ab_ql ab_qt T T' then T'.all fun t => (List.range t.2.2.1).all (ab_r1 k M O w true t)
  else T'.all fun t => (List.range t.2.2.1).all (ab_r1 k M O w (T.any fun u => ab_qt u t) t)
section ABC
variable {L : Nat} {xs : Nat → Int32} {ρ : Nat → Int} {k : ae_K} {M O : List ae_M} {h0 h : List am_E} {w : ae_Mo} {T T' : List ab_Ti}
theorem ab_cv_fr (hF : ae_fr w L xs h0 h) {p j : Nat} (q : ae_inm w p j = false) : ab_cv L xs h p j = ab_cv L xs h0 p j := by
  unfold ab_cv
  rw [hF p j q]
theorem ab_cur_ok (hK : ae_okK ρ k) (hM : ∀ m ∈ M, ae_eo k.1 ρ L xs h m) (hF : ae_fr w L xs h0 h) (hO : ∀ m ∈ O, ae_eo k.1 ρ L xs h0 m) {p j : Nat} {x : ae_X} (q : ab_cur k M O w p j = some x) : ae_dn k.1 ρ x (ab_cv L xs h p j) := by
  unfold ab_cur at q
  split at q
  · rename_i y hy
    cases q
    exact ab_ov_ok hK hM (ae_num_dn _) hy
  · cases hb : ae_inm w p j with
    | true => rw [hb] at q; cases q
    | false =>
      rw [hb] at q
      rw [ab_cv_fr hF hb]
      exact ab_ov_ok hK hO (ae_num_dn _) q
theorem ab_cs_ok (hK : ae_okK ρ k) (hM : ∀ m ∈ M, ae_eo k.1 ρ L xs h m) (hF : ae_fr w L xs h0 h) (hO : ∀ m ∈ O, ae_eo k.1 ρ L xs h0 m) {i : Nat} : ∀ {l : List ab_Tt} {y : ae_X}, ab_cs k M O w i l = some y → ae_dn k.1 ρ y (ab_sum (ab_cv L xs h) i l)
  | [], y, q => by cases q; exact ae_num_dn 0
  | t :: r, y, q => by
    obtain ⟨x, h1, q⟩ := Option.bind_eq_some_iff.mp q
    obtain ⟨y', h2, q⟩ := Option.bind_eq_some_iff.mp q
    cases q
    exact ae_add_dn (ae_scl_dn (ab_cur_ok hK hM hF hO h1) t.1) (ab_cs_ok hK hM hF hO h2)
theorem ab_utl_ok (hF : ae_fr w L xs h0 h) {i : Nat} {l : List ab_Tt} (q : ab_utl w i l = true) : ab_sum (ab_cv L xs h) i l = ab_sum (ab_cv L xs h0) i l := by
  refine ab_sum_eq (fun t ht => ab_cv_fr hF ?_)
  have := List.all_eq_true.mp q t ht
  simpa using this
theorem ab_df_ok (hK : ae_okK ρ k) (hM : ∀ m ∈ M, ae_eo k.1 ρ L xs h m) (hF : ae_fr w L xs h0 h) (hO : ∀ m ∈ O, ae_eo k.1 ρ L xs h0 m) {i : Nat} : ∀ {l : List ab_Tt} {y : ae_X}, ab_df k M O w i l = some y → ae_dn k.1 ρ y (ab_sum (ab_cv L xs h) i l - ab_sum (ab_cv L xs h0) i l)
  | [], y, q => by cases q; exact ae_num_dn 0
  | t :: r, y, q => by
    obtain ⟨y', h1, q⟩ := Option.bind_eq_some_iff.mp q
    have ih := ab_df_ok hK hM hF hO h1
    cases hb : ae_inm w t.2.1 (t.2.2.1 + t.2.2.2 * i) with
    | true =>
      rw [hb] at q
      obtain ⟨x, h2, q⟩ := Option.bind_eq_some_iff.mp q
      obtain ⟨o, h3, q⟩ := Option.bind_eq_some_iff.mp q
      cases q
      have d := ae_add_dn (ae_scl_dn (ae_sub_dn (ab_ov_ok hK hM (ae_num_dn _) h2) (ab_ov_ok hK hO (ae_num_dn _) h3)) t.1) ih
      refine ⟨d.1, d.2.trans ?_⟩
      show _ = (t.1 * ab_cv L xs h t.2.1 (t.2.2.1 + t.2.2.2 * i) + ab_sum (ab_cv L xs h) i r) - (t.1 * ab_cv L xs h0 t.2.1 (t.2.2.1 + t.2.2.2 * i) + ab_sum (ab_cv L xs h0) i r)
      rw [Int.mul_sub]
      omega
    | false =>
      rw [hb] at q
      cases q
      have e : ab_cv L xs h t.2.1 (t.2.2.1 + t.2.2.2 * i) = ab_cv L xs h0 t.2.1 (t.2.2.1 + t.2.2.2 * i) := ab_cv_fr hF hb
      refine ⟨ih.1, ih.2.trans ?_⟩
      show _ = (t.1 * ab_cv L xs h t.2.1 (t.2.2.1 + t.2.2.2 * i) + ab_sum (ab_cv L xs h) i r) - (t.1 * ab_cv L xs h0 t.2.1 (t.2.2.1 + t.2.2.2 * i) + ab_sum (ab_cv L xs h0) i r)
      rw [e]
      omega
theorem ab_r1_ok (hK : ae_okK ρ k) (hM : ∀ m ∈ M, ae_eo k.1 ρ L xs h m) (hF : ae_fr w L xs h0 h) (hO : ∀ m ∈ O, ae_eo k.1 ρ L xs h0 m) {s : Bool} {t : ab_Ti} {i : Nat} (hs : s = true → ab_hold (ab_cv L xs h0) t i) (q : ab_r1 k M O w s t i = true) : ab_hold (ab_cv L xs h) t i := by
  unfold ab_r1 at q
  rcases Bool.or_eq_true_iff.mp q with q | q
  · rcases Bool.or_eq_true_iff.mp q with q | q
    · simp only [Bool.and_eq_true] at q
      obtain ⟨⟨⟨q1, q2⟩, q3⟩, q4⟩ := q
      rcases hs q1 with ⟨g, hg, g1⟩ | g1
      · refine Or.inl ⟨g, hg, ?_⟩
        rcases Bool.or_eq_true_iff.mp (List.all_eq_true.mp q4 g hg) with q5 | q5
        rcases Bool.or_eq_true_iff.mp q5 with q5 | q5
        · unfold ab_gd at g1 ⊢
          rw [ab_utl_ok hF q5]
          exact g1
        · unfold ab_gm at q5
          split at q5
          · rename_i e he
            have d := ab_df_ok hK hM hF hO he
            have z := ae_z_ok hK q5
            rw [d.2] at z
            unfold ab_gd at g1 ⊢
            omega
          · cases q5
        · exact absurd g1 (ab_gf_ok hK hO (ae_num_dn _) q5)
      · refine Or.inr ?_
        rw [ab_cv_fr hF (by simpa using q2), ab_utl_ok hF q3]
        exact g1
    · refine Or.inr ?_
      unfold ab_en at q
      split at q
      · rename_i x hx
        split at q
        · rename_i y hy
          have d1 := ab_cur_ok hK hM hF hO hx
          have d2 := ab_cs_ok hK hM hF hO hy
          have r := ae_rg_ok hK q
          rw [ae_sub_ev, d1.2, d2.2] at r
          omega
        · cases q
      · cases q
  · obtain ⟨g, hg, q⟩ := List.any_eq_true.mp q
    refine Or.inl ⟨g, List.mem_reverse.mp hg, ?_⟩
    unfold ab_gn at q
    split at q
    · rename_i y hy
      have d := ab_cs_ok hK hM hF hO hy
      have z := ae_z_ok hK q
      rw [ae_pls_ev, d.2] at z
      unfold ab_gd
      omega
    · cases q
theorem ab_ric_ok (hK : ae_okK ρ k) (hM : ∀ m ∈ M, ae_eo k.1 ρ L xs h m) (hT : ab_RI T (ab_cv L xs h0)) (hF : ae_fr w L xs h0 h) (hO : ∀ m ∈ O, ae_eo k.1 ρ L xs h0 m) (q : ab_ric k M O w T T' = true) : ab_RI T' (ab_cv L xs h) := by
  intro t ht i hi
  unfold ab_ric at q
  cases hb : ab_ql ab_qt T T' with
  | true =>
    rw [hb] at q
    have e := ab_ql_ok ab_qt_ok hb
    exact ab_r1_ok hK hM hF hO (fun _ => hT t (by rw [e]; exact ht) i hi) (List.all_eq_true.mp (List.all_eq_true.mp q t ht) i (List.mem_range.mpr hi))
  | false =>
    rw [hb] at q
    refine ab_r1_ok hK hM hF hO (fun hs => ?_) (List.all_eq_true.mp (List.all_eq_true.mp q t ht) i (List.mem_range.mpr hi))
    obtain ⟨u, hu, e⟩ := List.any_eq_true.mp hs
    have e := ab_qt_ok _ _ e
    subst e
    exact hT u hu i hi
end ABC
/-! ties by cases: what else holds if none of its conditions does -/
noncomputable def ab_lq (T : List ab_Ti) (w : ae_Mo) (z : ab_Lz) (p j : Nat) : ab_Lz :=
  bif Nat.blt 0 p && Nat.ble p ae_np && Nat.blt j (ae_sh p).2.2 then (match ab_ld T w z.1 z.2.1 z.2.2 p (ae_num (j : Int)) with
    | some y => y
    | none => z) else z
noncomputable def ab_lqs (T : List ab_Ti) (w : ae_Mo) (i : Nat) : List ab_Tt → ab_Lz → ab_Lz
  | [], z => z
  | t :: r, z => ab_lqs T w i r (ab_lq T w z t.2.1 (t.2.2.1 + t.2.2.2 * i))
/-- cells of old that hold x, and what ties say of them -/
noncomputable def ab_al2 (T : List ab_Ti) (k : ae_K) (O : List ae_M) (x y : ae_X) (c : Int) : Bool := O.any fun m => Nat.blt m.2.2.1.1 2 && ae_xe (ae_nr k m.2.2.1.2.2) (ae_nr k x) && T.any fun t => match ab_ti k O m.1 m.2.1 t with
  | some u => ae_rg k (ae_sub u y) c c
  | none => false
noncomputable def ab_rz (T : List ab_Ti) (w : ae_Mo) (t : ab_Ti) (i : Nat) (z : ab_Lz) : Bool := match ab_lqs T w i t.2.2.2.1.2 (ab_lq T w z t.1 (t.2.1 + t.st * i)) with
  | (k, M, O) => (match ab_cur k M O w t.1 (t.2.1 + t.st * i) with
    | some x => (match ab_cs k M O w i t.2.2.2.1.2 with
      | some y => ae_rg k (ae_sub x y) t.2.2.2.1.1 t.2.2.2.1.1 || ab_al2 T k O x y t.2.2.2.1.1
      | none => false)
    | none => false)
noncomputable def ab_rg2 (T : List ab_Ti) (w : ae_Mo) (t : ab_Ti) (i : Nat) : List ab_Gd → ab_Lz → Bool
  | [], z => ab_rz T w t i z
  | g :: r, z => match ab_lqs T w i g.2.2 z with
    | (k, M, O) => (match ab_cs k M O w i g.2.2 with
      | some y => (ae_as k (ae_neg (ae_pls y (g.1 + g.2.1 * (i : Int))) 1)).all fun k2 => ab_rg2 T w t i r (k2, M, O)
      | none => false)
/-- none of a tie's places is written -/
noncomputable def ab_np (w : ae_Mo) (p a b : Nat) : Bool := w.all fun r => !(Nat.beq r.1 p) || (ae_le (r.2.2 + 1) (a : Int) || ae_le ((b : Int) + 1) r.2.1)
noncomputable def ab_nt (w : ae_Mo) (m : Nat) (l : List ab_Tt) : Bool := l.all fun t => ab_np w t.2.1 t.2.2.1 (t.2.2.1 + t.2.2.2 * m)
noncomputable def ab_nw (w : ae_Mo) (t : ab_Ti) : Bool := ab_np w t.1 t.2.1 (t.2.1 + t.st * (t.2.2.1 - 1)) && ab_nt w (t.2.2.1 - 1) t.2.2.2.1.2 && t.2.2.2.2.1.all fun g => ab_nt w (t.2.2.1 - 1) g.2.2
/-- one of the conditions holds: all others put aside -/
noncomputable def ab_rgo (w : ae_Mo) (i : Nat) (M O : List ae_M) : List ab_Gd → ae_K → Bool
  | [], _ => false
  | g :: r, k => match ab_cs k M O w i g.2.2 with
    | some y => (ae_as k (ae_neg (ae_pls y (g.1 + g.2.1 * (i : Int))) 1)).all fun k2 => ab_rgo w i M O r k2
    | none => ab_rgo w i M O r k
noncomputable def ab_lqg (T : List ab_Ti) (w : ae_Mo) (i : Nat) : List ab_Gd → ab_Lz → ab_Lz
  | [], z => z
  | g :: r, z => ab_lqg T w i r (ab_lqs T w i g.2.2 z)
noncomputable def ab_rr (T : List ab_Ti) (w : ae_Mo) (t : ab_Ti) (i : Nat) (z : ab_Lz) : Bool := ab_rgo w i (ab_lqg T w i t.2.2.2.2.1 z).2.1 (ab_lqg T w i t.2.2.2.2.1 z).2.2 t.2.2.2.2.1 (ab_lqg T w i t.2.2.2.2.1 z).1
noncomputable def ab_rt (T : List ab_Ti) (w : ae_Mo) (t : ab_Ti) (i : Nat) (z : ab_Lz) : Bool := bif ab_isR t then ab_rr T w t i z else ab_rg2 T w t i t.2.2.2.2.1 z
/-! the same at an index that is no number -/
noncomputable def ab_cux (k : ae_K) (M O : List ae_M) (w : ae_Mo) (p : Nat) (e : ae_X) : Option ae_X := match ab_ov k M p e with
  | some x => some x
  | none => bif ab_ou k w p (ae_nr k e) then ab_ov k O p e else none
noncomputable def ab_csx (k : ae_K) (M O : List ae_M) (w : ae_Mo) (i : ae_X) : List ab_Tt → Option ae_X
  | [] => some (ae_num 0)
  | (c, p, b, s) :: r => (ab_cux k M O w p (ab_at i b s)).bind fun x => (ab_csx k M O w i r).bind fun y => some (ae_add (ae_scl c x) y)
noncomputable def ab_lx (T : List ab_Ti) (w : ae_Mo) (z : ab_Lz) (p : Nat) (e : ae_X) : ab_Lz :=
  bif Nat.blt 0 p && Nat.ble p ae_np && ae_rg z.1 e 0 (((ae_sh p).2.2 : Int) - 1) then (match ab_ld T w z.1 z.2.1 z.2.2 p e with
    | some y => y
    | none => z) else z
noncomputable def ab_lxs (T : List ab_Ti) (w : ae_Mo) (i : ae_X) : List ab_Tt → ab_Lz → ab_Lz
  | [], z => z
  | (_, p, b, s) :: r, z => ab_lxs T w i r (ab_lx T w z p (ab_at i b s))
noncomputable def ab_xz (T : List ab_Ti) (w : ae_Mo) (t : ab_Ti) (i : ae_X) (z : ab_Lz) : Bool := match ab_lxs T w i t.2.2.2.1.2 (ab_lx T w z t.1 (ab_at i t.2.1 t.st)) with
  | (k, M, O) => (match ab_cux k M O w t.1 (ab_at i t.2.1 t.st) with
    | some x => (match ab_csx k M O w i t.2.2.2.1.2 with
      | some y => ae_rg k (ae_sub x y) t.2.2.2.1.1 t.2.2.2.1.1
      | none => false)
    | none => false)
noncomputable def ab_xg (T : List ab_Ti) (w : ae_Mo) (t : ab_Ti) (i : ae_X) : List ab_Gd → ab_Lz → Bool
  | [], z => bif ab_isR t then false else ab_xz T w t i z
  | g :: r, z => match ab_lxs T w i g.2.2 z with
    | (k, M, O) => (match ab_csx k M O w i g.2.2 with
      | some y => (ae_as k (ae_neg (ae_pls (ae_add (ae_scl g.2.1 i) y) g.1) 1)).all fun k2 => ab_xg T w t i r (k2, M, O)
      | none => ab_xg T w t i r (k, M, O))
/-! what a tie said where the walk began it says now, at an index: a condition holds now; or its cell and its terms are untouched and each condition stays -/
/-- a sum's scalars where the walk began; its other terms -/
noncomputable def ab_gpo (k : ae_K) (O : List ae_M) : List ab_Tt → Option (ae_X × List ab_Tt)
  | [] => some (ae_num 0, [])
  | q :: r => (ab_gpo k O r).bind fun y => bif Nat.beq q.2.2.2 0 then (ab_ov k O q.2.1 (ae_num (q.2.2.1 : Int))).bind fun x => some (ae_add (ae_scl q.1 x) y.1, y.2) else some (y.1, q :: y.2)
noncomputable def ab_gpn (k : ae_K) (M O : List ae_M) (w : ae_Mo) : List ab_Tt → Option (ae_X × List ab_Tt)
  | [] => some (ae_num 0, [])
  | q :: r => (ab_gpn k M O w r).bind fun y => bif Nat.beq q.2.2.2 0 then (ab_cux k M O w q.2.1 (ae_num (q.2.2.1 : Int))).bind fun x => some (ae_add (ae_scl q.1 x) y.1, y.2) else some (y.1, q :: y.2)
/-- where g held, g2 does now -/
noncomputable def ab_gq (k : ae_K) (M O : List ae_M) (w : ae_Mo) (i : ae_X) (n : Nat) (g g2 : ab_Gd) : Bool := (ab_qg g g2 && ab_nt w n g.2.2) || (ae_ie g.2.1 g2.2.1 && (match ab_gpo k O g.2.2 with
  | some a => (match ab_gpn k M O w g2.2.2 with
    | some b => ab_ql ab_q3 a.2 b.2 && ab_nt w n a.2 && (ae_z k (ae_sub (ae_pls b.1 g2.1) (ae_pls a.1 g.1)) || (a.2.isEmpty && (ae_as k (ae_pls (ae_add (ae_scl g.2.1 i) a.1) g.1)).all fun k2 => ae_z k2 (ae_pls (ae_add (ae_scl g2.2.1 i) b.1) g2.1)))
    | none => false)
  | none => false))
noncomputable def ab_gy (k : ae_K) (M O : List ae_M) (w : ae_Mo) (i : ae_X) (g : ab_Gd) : Bool := match ab_csx k M O w i g.2.2 with
  | some y => ae_z k (ae_pls (ae_add (ae_scl g.2.1 i) y) g.1)
  | none => false
noncomputable def ab_sh (u t : ab_Ti) : Bool := Nat.beq u.1 t.1 && Nat.beq u.2.1 t.2.1 && Nat.beq u.2.2.1 t.2.2.1 && ae_ie u.2.2.2.1.1 t.2.2.2.1.1 && ab_ql ab_q3 u.2.2.2.1.2 t.2.2.2.1.2 && Nat.beq u.st t.st
noncomputable def ab_sy (C : List ab_Ti) (w : ae_Mo) (k : ae_K) (M O : List ae_M) (t : ab_Ti) (i : ae_X) : Bool := t.2.2.2.2.1.any (ab_gy k M O w i) ||
  (ab_np w t.1 t.2.1 (t.2.1 + t.st * (t.2.2.1 - 1)) && ab_nt w (t.2.2.1 - 1) t.2.2.2.1.2 && C.any fun u => ab_sh u t && u.2.2.2.2.1.all fun g => t.2.2.2.2.1.any (ab_gq k M O w i (t.2.2.1 - 1) g) || ab_gf k O i g)
/-- smaller or greater than each of these -/
noncomputable def ab_xr (C : List ab_Ti) (w : ae_Mo) (t : ab_Ti) (i : ae_X) (M O : List ae_M) : List ae_X → ae_K → Bool
  | [], k => ab_sy C w k M O t i
  | e :: r, k => ((ae_as k (ae_pls (ae_sub i e) 1)).all fun k2 => ab_xr C w t i M O r k2) && (ae_as k (ae_pls (ae_sub e i) 1)).all fun k2 => ab_xr C w t i M O r k2
/-- so many steps told, the open blocks -/
noncomputable def ab_piv : List (Nat × Nat) := [(68, 5), (74, 0), (74, 1), (74, 2)]
noncomputable def ab_xe (k : ae_K) (O : List ae_M) : List ae_X := (ab_piv.filterMap fun q => ab_ov k O q.1 (ae_num (q.2 : Int))).filter fun e => ae_wb k.1 e.2
noncomputable def ab_rx (T : List ab_Ti) (w : ae_Mo) (C : List ab_Ti) (t : ab_Ti) (z : ab_Lz) : Bool := match z with
  | (k, M, O) => ((ab_xe k O).all fun e => (ae_ask k [ae_neg e 0, ae_pls e (1 - (t.2.2.1 : Int))]).all fun k2 => ab_sy C w k2 M O t e || ab_xg T w t e t.2.2.2.2.1 (k2, M, O)) && ab_xr C w t (ae_sym k.1) M O (ab_xe k O) (ae_new k 0 ((t.2.2.1 : Int) - 1))
noncomputable def ab_ri2 (k : ae_K) (M O : List ae_M) (w : ae_Mo) (T : List ab_Ti) (s : Bool) (t : ab_Ti) : Bool := (s && ab_nw w t) || bif Nat.beq t.2.2.1 30 then ab_rx T w (bif s then [t] else T) t (k, M, O) else (List.range t.2.2.1).all fun i => ab_r1 k M O w s t i || (ab_rt T w t i (k, M, O) || ab_xg T w t (ae_num (i : Int)) t.2.2.2.2.1 (k, M, O))
/-- what stands behind a tie -/
noncomputable def ab_sk (t : ab_Ti) (l : List ab_Ti) : Option (List ab_Ti) := List.rec (motive := fun _ => Option (List ab_Ti)) none (fun u s r => Bool.rec (motive := fun _ => Option (List ab_Ti)) r (some s) (ab_qt u t)) l
theorem ab_sk_ok {t : ab_Ti} : ∀ {l s : List ab_Ti}, ab_sk t l = some s → t ∈ l ∧ ∀ u ∈ s, u ∈ l
  | [], _, q => by cases q
  | u :: r, s, q => by
    have q : Bool.rec (motive := fun _ => Option (List ab_Ti)) (ab_sk t r) (some r) (ab_qt u t) = some s := q
    cases hq : ab_qt u t with
    | true =>
      rw [hq] at q
      have q : some r = some s := q
      injection q with q
      subst q
      exact ⟨by rw [ab_qt_ok _ _ hq]; exact List.mem_cons_self, fun v hv => List.mem_cons_of_mem _ hv⟩
    | false =>
      rw [hq] at q
      obtain ⟨h1, h2⟩ := ab_sk_ok (show ab_sk t r = some s from q)
      exact ⟨List.mem_cons_of_mem _ h1, fun v hv => List.mem_cons_of_mem _ (h2 v hv)⟩
/-- what is written of a place -/
noncomputable def ai_wp (w : ae_Mo) (p : Nat) : List (Int × Int) := List.rec (motive := fun _ => List (Int × Int)) [] (fun r _ ih => match r with
  | (q, z) => bif Nat.beq q p then z :: ih else ih) w
noncomputable def ai_n0 (l : List (Int × Int)) (a b : Nat) : Bool := List.rec (motive := fun _ => Bool) true (fun z _ ih => match z with
  | (lo, hi) => bif ae_le (hi + 1) (a : Int) || ae_le ((b : Int) + 1) lo then ih else false) l
noncomputable def ai_np (w : ae_Mo) (p a b : Nat) : Bool := ai_n0 (ai_wp w p) a b
theorem ai_np_eq (p a b : Nat) : ∀ w : ae_Mo, ai_np w p a b = ab_np w p a b
  | [] => rfl
  | (q, lo, hi) :: r => by
    have ih := ai_np_eq p a b r
    show ai_n0 (bif Nat.beq q p then (lo, hi) :: ai_wp r p else ai_wp r p) a b = ((!(Nat.beq q p) || (ae_le (hi + 1) (a : Int) || ae_le ((b : Int) + 1) lo)) && ab_np r p a b)
    cases Nat.beq q p with
    | false => exact ih
    | true =>
      show (bif ae_le (hi + 1) (a : Int) || ae_le ((b : Int) + 1) lo then ai_n0 (ai_wp r p) a b else false) = ((false || (ae_le (hi + 1) (a : Int) || ae_le ((b : Int) + 1) lo)) && ab_np r p a b)
      rw [Bool.false_or, show ai_n0 (ai_wp r p) a b = ab_np r p a b from ih]
      cases (ae_le (hi + 1) (a : Int) || ae_le ((b : Int) + 1) lo) <;> rfl
noncomputable def ai_nt (w : ae_Mo) (m : Nat) (l : List ab_Tt) : Bool := List.rec (motive := fun _ => Bool) true (fun t _ ih => match t with
  | (_, p, a, s) => bif ai_np w p a (a + s * m) then ih else false) l
theorem ai_nt_eq (w : ae_Mo) (m : Nat) : ∀ l : List ab_Tt, ai_nt w m l = ab_nt w m l
  | [] => rfl
  | (c, p, a, s) :: r => by
    have ih := ai_nt_eq w m r
    show (bif ai_np w p a (a + s * m) then ai_nt w m r else false) = (ab_np w p a (a + s * m) && ab_nt w m r)
    rw [ai_np_eq, ih]
    cases ab_np w p a (a + s * m) <;> rfl
noncomputable def ai_ng (w : ae_Mo) (m : Nat) (l : List ab_Gd) : Bool := List.rec (motive := fun _ => Bool) true (fun g _ ih => match g with
  | (_, _, l) => bif ai_nt w m l then ih else false) l
theorem ai_ng_eq (w : ae_Mo) (m : Nat) : ∀ l : List ab_Gd, ai_ng w m l = l.all fun g => ab_nt w m g.2.2
  | [] => rfl
  | (c, x, l) :: r => by
    have ih := ai_ng_eq w m r
    show (bif ai_nt w m l then ai_ng w m r else false) = (ab_nt w m l && r.all fun g => ab_nt w m g.2.2)
    rw [ai_nt_eq, ih]
    cases ab_nt w m l <;> rfl
noncomputable def ai_nw (w : ae_Mo) (t : ab_Ti) : Bool := match t with
  | (p, f, n, (_, l), gs, s) => bif ai_np w p f (f + s * (n - 1)) then (bif ai_nt w (n - 1) l then ai_ng w (n - 1) gs else false) else false
theorem ai_nw_eq (w : ae_Mo) (t : ab_Ti) : ai_nw w t = ab_nw w t := by
  obtain ⟨p, f, n, ⟨c, l⟩, gs, s⟩ := t
  show (bif ai_np w p f (f + s * (n - 1)) then (bif ai_nt w (n - 1) l then ai_ng w (n - 1) gs else false) else false) = (ab_np w p f (f + s * (n - 1)) && ab_nt w (n - 1) l && gs.all fun g => ab_nt w (n - 1) g.2.2)
  rw [ai_np_eq, ai_nt_eq, ai_ng_eq]
  cases ab_np w p f (f + s * (n - 1)) <;> cases ab_nt w (n - 1) l <;> rfl
theorem ai_nw_ri {w : ae_Mo} {t : ab_Ti} (h : ai_nw w t = true) (k : ae_K) (M O : List ae_M) (T : List ab_Ti) : ab_ri2 k M O w T true t = true := by
  rw [ai_nw_eq] at h
  unfold ab_ri2
  rw [h]
  rfl
noncomputable def ai_mem (T : List ab_Ti) (t : ab_Ti) : Bool := List.rec (motive := fun _ => Bool) false (fun u _ r => Bool.rec (motive := fun _ => Bool) r true (ab_qt u t)) T
theorem ai_mem_ok {t : ab_Ti} : ∀ {T : List ab_Ti}, ai_mem T t = true → t ∈ T
  | [], q => by cases q
  | u :: r, q => by
    have q : Bool.rec (motive := fun _ => Bool) (ai_mem r t) true (ab_qt u t) = true := q
    cases h : ab_qt u t with
    | true =>
      rw [ab_qt_ok _ _ h]
      exact List.mem_cons_self
    | false =>
      rw [h] at q
      exact List.mem_cons_of_mem _ (ai_mem_ok q)
/-- along both lists: what is in the other's rest goes on behind it; what is not stands by itself -/
noncomputable def ab_rz2 (k : ae_K) (M O : List ae_M) (w : ae_Mo) (T A B : List ab_Ti) : Bool := List.rec (motive := fun _ => List ab_Ti → Bool) (fun _ => true) (fun t _ ih l => match ab_sk t l with
    | some s => bif ai_nw w t then ih s else bif ab_ri2 k M O w T true t then ih s else false
    | none => bif ab_ri2 k M O w T (ai_mem T t) t then ih l else false) A B
theorem ai_all_mem {α : Type} {f : α → Bool} : ∀ {l : List α}, ai_all f l = true → ∀ x ∈ l, f x = true
  | [], _, x, hx => absurd hx List.not_mem_nil
  | h :: r, q, x, hx => by
    have q : Bool.rec (motive := fun _ => Bool) false (ai_all f r) (f h) = true := q
    cases hf : f h with
    | false => rw [hf] at q; cases q
    | true =>
      rw [hf] at q
      rcases List.mem_cons.mp hx with rfl | hx
      · exact hf
      · exact ai_all_mem (show ai_all f r = true from q) x hx
theorem ai_flt_mem {α : Type} {f : α → Bool} : ∀ {l : List α} {x : α}, x ∈ l → f x = true → x ∈ ai_flt f l
  | [], _, hx, _ => absurd hx List.not_mem_nil
  | h :: r, x, hx, hf => by
    show x ∈ Bool.rec (motive := fun _ => List α) (ai_flt f r) (h :: ai_flt f r) (f h)
    rcases List.mem_cons.mp hx with rfl | hx
    · rw [hf]
      exact List.mem_cons_self
    · cases f h with
      | false => exact ai_flt_mem hx hf
      | true => exact List.mem_cons_of_mem _ (ai_flt_mem hx hf)
/-- those that don't stand in T -/
noncomputable def ai_no (T A B : List ab_Ti) : List ab_Ti := List.rec (motive := fun _ => List ab_Ti → List ab_Ti) (fun _ => []) (fun t _ ih l => match ab_sk t l with
    | some s => ih s
    | none => bif ai_mem T t then ih l else t :: ih l) A B
theorem ai_io {T : List ab_Ti} : ∀ {A B : List ab_Ti}, (∀ u ∈ B, u ∈ T) → ∀ t ∈ A, t ∈ T ∨ t ∈ ai_no T A B
  | [], _, _, t, ht => absurd ht List.not_mem_nil
  | a :: r, B, hB, t, ht => by
    have e2 : ai_no T (a :: r) B = (match ab_sk a B with
      | some s => ai_no T r s
      | none => bif ai_mem T a then ai_no T r B else a :: ai_no T r B) := rfl
    cases hs : ab_sk a B with
    | some s =>
      rw [hs] at e2
      have e2 : ai_no T (a :: r) B = ai_no T r s := e2
      obtain ⟨h1, h2⟩ := ab_sk_ok hs
      rw [e2]
      rcases List.mem_cons.mp ht with rfl | ht
      · exact Or.inl (hB _ h1)
      · exact ai_io (fun u hu => hB u (h2 u hu)) t ht
    | none =>
      rw [hs] at e2
      have e2 : ai_no T (a :: r) B = (bif ai_mem T a then ai_no T r B else a :: ai_no T r B) := e2
      cases ha : ai_mem T a with
      | true =>
        rw [ha] at e2
        have e2 : ai_no T (a :: r) B = ai_no T r B := e2
        rw [e2]
        rcases List.mem_cons.mp ht with rfl | ht
        · exact Or.inl (ai_mem_ok ha)
        · exact ai_io hB t ht
      | false =>
        rw [ha] at e2
        have e2 : ai_no T (a :: r) B = a :: ai_no T r B := e2
        rw [e2]
        rcases List.mem_cons.mp ht with rfl | ht
        · exact Or.inr List.mem_cons_self
        · rcases ai_io hB t ht with g | g
          · exact Or.inl g
          · exact Or.inr (List.mem_cons_of_mem _ g)
/-- whether a tie speaks of a place -/
noncomputable def ai_spl (p : Nat) (l : List ab_Tt) : Bool := List.rec (motive := fun _ => Bool) false (fun t _ ih => match t with
  | (_, q, _, _) => bif Nat.beq p q then true else ih) l
noncomputable def ai_spg (p : Nat) (l : List ab_Gd) : Bool := List.rec (motive := fun _ => Bool) false (fun g _ ih => match g with
  | (_, _, l) => bif ai_spl p l then true else ih) l
noncomputable def ai_spk (p : Nat) (t : ab_Ti) : Bool := match t with
  | (q, _, _, (_, l), gs, _) => bif Nat.beq p q then true else bif ai_spl p l then true else ai_spg p gs
theorem ai_np0 {p q : Nat} (h : Nat.beq p q = false) (a b : Int) (x y : Nat) : ab_np [(p, a, b)] q x y = true := by
  show ((!(Nat.beq p q) || (ae_le (b + 1) (x : Int) || ae_le ((y : Int) + 1) a)) && true) = true
  rw [h]
  rfl
theorem ai_spl0 {p : Nat} (a b : Int) (m : Nat) : ∀ {l : List ab_Tt}, ai_spl p l = false → ab_nt [(p, a, b)] m l = true
  | [], _ => rfl
  | (c, q, x, s) :: r, h => by
    have h : (bif Nat.beq p q then true else ai_spl p r) = false := h
    cases hb : Nat.beq p q with
    | true => rw [hb] at h; cases h
    | false =>
      rw [hb] at h
      show (ab_np [(p, a, b)] q x (x + s * m) && ab_nt [(p, a, b)] m r) = true
      rw [ai_np0 hb, ai_spl0 a b m (show ai_spl p r = false from h)]
      rfl
theorem ai_spg0 {p : Nat} (a b : Int) (m : Nat) : ∀ {l : List ab_Gd}, ai_spg p l = false → (l.all fun g => ab_nt [(p, a, b)] m g.2.2) = true
  | [], _ => rfl
  | (c, x, l) :: r, h => by
    have h : (bif ai_spl p l then true else ai_spg p r) = false := h
    cases hb : ai_spl p l with
    | true => rw [hb] at h; cases h
    | false =>
      rw [hb] at h
      show (ab_nt [(p, a, b)] m l && r.all fun g => ab_nt [(p, a, b)] m g.2.2) = true
      rw [ai_spl0 a b m hb, ai_spg0 a b m (show ai_spg p r = false from h)]
      rfl
theorem ai_spk0 {p : Nat} (a b : Int) {t : ab_Ti} (h : ai_spk p t = false) : ab_nw [(p, a, b)] t = true := by
  obtain ⟨q, f, n, ⟨c, l⟩, gs, s⟩ := t
  have h : (bif Nat.beq p q then true else bif ai_spl p l then true else ai_spg p gs) = false := h
  cases h1 : Nat.beq p q with
  | true => rw [h1] at h; cases h
  | false =>
    rw [h1] at h
    have h : (bif ai_spl p l then true else ai_spg p gs) = false := h
    cases h2 : ai_spl p l with
    | true => rw [h2] at h; cases h
    | false =>
      rw [h2] at h
      show (ab_np [(p, a, b)] q f (f + s * (n - 1)) && ab_nt [(p, a, b)] (n - 1) l && gs.all fun g => ab_nt [(p, a, b)] (n - 1) g.2.2) = true
      rw [ai_np0 h1, ai_spl0 a b _ h2, ai_spg0 a b _ (show ai_spg p gs = false from h)]
      rfl
/-- ties that a written range can touch: by place, then by sixteens; each list is found once -/
noncomputable def ai_by (T : List ab_Ti) (p : Nat) : List ab_Ti := ai_flt (ai_spk p) T
noncomputable def ai_tt (T : List ab_Ti) (p u v : Nat) : List ab_Ti := ai_flt (fun t => !(ai_nw [(p, ((16 * u : Nat) : Int), ((16 * v + 15 : Nat) : Int))] t)) (ai_by T p)
/-- no more than n -/
noncomputable def ai_few (n : Nat) (w : ae_Mo) : Bool := List.rec (motive := fun _ => Nat → Bool) (fun _ => true) (fun _ _ ih n => Nat.rec (motive := fun _ => Bool) false (fun m _ => ih m) n) w n
noncomputable def ai_nnw (w : ae_Mo) : Bool := ai_all (fun r => match r with
  | (_, a, b) => bif ae_nn a then ae_nn b else false) w
noncomputable def ai_R (r : Nat × Int × Int) : ae_Mo := [(r.1, ((16 * (r.2.1.toNat / 16) : Nat) : Int), ((16 * (r.2.2.toNat / 16) + 15 : Nat) : Int))]
theorem ai_np1 {r : Nat × Int × Int} (h0 : 0 ≤ r.2.1) (h1 : 0 ≤ r.2.2) {p a b : Nat} (q : ab_np (ai_R r) p a b = true) : (!(Nat.beq r.1 p) || (ae_le (r.2.2 + 1) (a : Int) || ae_le ((b : Int) + 1) r.2.1)) = true := by
  obtain ⟨r1, r2, r3⟩ := r
  have h0 : 0 ≤ r2 := h0
  have h1 : 0 ≤ r3 := h1
  have q := List.all_eq_true.mp q _ List.mem_cons_self
  have q : (!(Nat.beq r1 p) || (ae_le (((16 * (r3.toNat / 16) + 15 : Nat) : Int) + 1) (a : Int) || ae_le ((b : Int) + 1) ((16 * (r2.toNat / 16) : Nat) : Int))) = true := q
  show (!(Nat.beq r1 p) || (ae_le (r3 + 1) (a : Int) || ae_le ((b : Int) + 1) r2)) = true
  rcases Bool.or_eq_true_iff.mp q with q | q
  · exact Bool.or_eq_true_iff.mpr (Or.inl q)
  · refine Bool.or_eq_true_iff.mpr (Or.inr ?_)
    rcases Bool.or_eq_true_iff.mp q with q | q
    · have q := ae_le_iff.mp q
      exact Bool.or_eq_true_iff.mpr (Or.inl (ae_le_iff.mpr (by omega)))
    · have q := ae_le_iff.mp q
      exact Bool.or_eq_true_iff.mpr (Or.inr (ae_le_iff.mpr (by omega)))
theorem ai_npw {w : ae_Mo} (hw : ∀ r ∈ w, 0 ≤ r.2.1 ∧ 0 ≤ r.2.2) {p a b : Nat} (q : ∀ r ∈ w, ab_np (ai_R r) p a b = true) : ab_np w p a b = true :=
  List.all_eq_true.mpr fun r hr => ai_np1 (hw r hr).1 (hw r hr).2 (q r hr)
theorem ai_ntw {w : ae_Mo} (hw : ∀ r ∈ w, 0 ≤ r.2.1 ∧ 0 ≤ r.2.2) {m : Nat} {l : List ab_Tt} (q : ∀ r ∈ w, ab_nt (ai_R r) m l = true) : ab_nt w m l = true :=
  List.all_eq_true.mpr fun t ht => ai_npw hw fun r hr => List.all_eq_true.mp (q r hr) t ht
theorem ai_nww {w : ae_Mo} (hw : ∀ r ∈ w, 0 ≤ r.2.1 ∧ 0 ≤ r.2.2) {t : ab_Ti} (q : ∀ r ∈ w, ab_nw (ai_R r) t = true) : ab_nw w t = true := by
  have q' : ∀ r ∈ w, (ab_np (ai_R r) t.1 t.2.1 (t.2.1 + t.st * (t.2.2.1 - 1)) = true ∧ ab_nt (ai_R r) (t.2.2.1 - 1) t.2.2.2.1.2 = true) ∧ (t.2.2.2.2.1.all fun g => ab_nt (ai_R r) (t.2.2.1 - 1) g.2.2) = true := fun r hr => by
    have := q r hr
    unfold ab_nw at this
    rw [Bool.and_eq_true, Bool.and_eq_true] at this
    exact this
  unfold ab_nw
  rw [Bool.and_eq_true, Bool.and_eq_true]
  exact ⟨⟨ai_npw hw fun r hr => (q' r hr).1.1, ai_ntw hw fun r hr => (q' r hr).1.2⟩, List.all_eq_true.mpr fun g hg => ai_ntw hw fun r hr => List.all_eq_true.mp (q' r hr).2 g hg⟩
/-! a touched tie, lists by their recursor: what its conditions say now is looked at first, all ties share it -/
theorem ai_or_e (a b : Bool) : Bool.rec (motive := fun _ => Bool) b true a = (a || b) := by cases a <;> rfl
theorem ai_and_e (a b : Bool) : Bool.rec (motive := fun _ => Bool) false b a = (a && b) := by cases a <;> rfl
noncomputable def ai_im0 (l : List (Int × Int)) (j : Int) : Bool := List.rec (motive := fun _ => Bool) false (fun z _ r => match z with
  | (lo, hi) => Bool.rec (motive := fun _ => Bool) r true (Bool.rec (motive := fun _ => Bool) false (ae_le j hi) (ae_le lo j))) l
noncomputable def ai_inm (w : ae_Mo) (p j : Nat) : Bool := ai_im0 (ai_wp w p) (j : Int)
theorem ai_inm_e (p j : Nat) : ∀ w : ae_Mo, ai_inm w p j = ae_inm w p j
  | [] => rfl
  | (q, lo, hi) :: r => by
    have ih := ai_inm_e p j r
    show ai_im0 (bif Nat.beq q p then (lo, hi) :: ai_wp r p else ai_wp r p) (j : Int) = ((Nat.beq q p && ae_le lo (j : Int) && ae_le (j : Int) hi) || ae_inm r p j)
    cases Nat.beq q p with
    | false => exact ih
    | true =>
      show Bool.rec (motive := fun _ => Bool) (ai_im0 (ai_wp r p) (j : Int)) true (Bool.rec (motive := fun _ => Bool) false (ae_le (j : Int) hi) (ae_le lo (j : Int))) = _
      rw [ai_or_e, ai_and_e, show ai_im0 (ai_wp r p) (j : Int) = ae_inm r p j from ih]
      rfl
noncomputable def ai_utl (w : ae_Mo) (i : Nat) (l : List ab_Tt) : Bool := List.rec (motive := fun _ => Bool) true (fun t _ r => match t with
  | (_, p, b, s) => Bool.rec (motive := fun _ => Bool) r false (ai_inm w p (b + s * i))) l
theorem ai_utl_e (w : ae_Mo) (i : Nat) : ∀ l : List ab_Tt, ai_utl w i l = ab_utl w i l
  | [] => rfl
  | (c, p, b, s) :: r => by
    have ih := ai_utl_e w i r
    show Bool.rec (motive := fun _ => Bool) (ai_utl w i r) false (ai_inm w p (b + s * i)) = (!(ae_inm w p (b + s * i)) && ab_utl w i r)
    rw [ai_inm_e, ih]
    cases ae_inm w p (b + s * i) <;> rfl
noncomputable def ai_cur (k : ae_K) (M O : List ae_M) (w : ae_Mo) (p j : Nat) : Option ae_X := match ab_ov k M p (ae_num (j : Int)) with
  | some x => some x
  | none => bif ai_inm w p j then none else ab_ov k O p (ae_num (j : Int))
theorem ai_cur_e (k : ae_K) (M O : List ae_M) (w : ae_Mo) (p j : Nat) : ai_cur k M O w p j = ab_cur k M O w p j := by
  unfold ai_cur ab_cur
  rw [ai_inm_e]
noncomputable def ai_cs (k : ae_K) (M O : List ae_M) (w : ae_Mo) (i : Nat) (l : List ab_Tt) : Option ae_X := List.rec (motive := fun _ => Option ae_X) (some (ae_num 0)) (fun t _ r => match t with
  | (c, p, b, s) => (match ai_cur k M O w p (b + s * i) with
    | some x => (match r with
      | some y => some (ae_add (ae_scl c x) y)
      | none => none)
    | none => none)) l
theorem ai_cs_e (k : ae_K) (M O : List ae_M) (w : ae_Mo) (i : Nat) : ∀ l : List ab_Tt, ai_cs k M O w i l = ab_cs k M O w i l
  | [] => rfl
  | (c, p, b, s) :: r => by
    have ih := ai_cs_e k M O w i r
    show (match ai_cur k M O w p (b + s * i) with
      | some x => (match ai_cs k M O w i r with
        | some y => some (ae_add (ae_scl c x) y)
        | none => none)
      | none => none) = (ab_cur k M O w p (b + s * i)).bind fun x => (ab_cs k M O w i r).bind fun y => some (ae_add (ae_scl c x) y)
    rw [ai_cur_e, ih]
    cases ab_cur k M O w p (b + s * i) with
    | none => rfl
    | some x => cases ab_cs k M O w i r <;> rfl
noncomputable def ai_df (k : ae_K) (M O : List ae_M) (w : ae_Mo) (i : Nat) (l : List ab_Tt) : Option ae_X := List.rec (motive := fun _ => Option ae_X) (some (ae_num 0)) (fun t _ r => match t with
  | (c, p, b, s) => (match r with
    | some y => bif ai_inm w p (b + s * i) then (ab_ov k M p (ae_num ((b + s * i : Nat) : Int))).bind fun x => (ab_ov k O p (ae_num ((b + s * i : Nat) : Int))).bind fun o => some (ae_add (ae_scl c (ae_sub x o)) y) else some y
    | none => none)) l
theorem ai_df_e (k : ae_K) (M O : List ae_M) (w : ae_Mo) (i : Nat) : ∀ l : List ab_Tt, ai_df k M O w i l = ab_df k M O w i l
  | [] => rfl
  | (c, p, b, s) :: r => by
    have ih := ai_df_e k M O w i r
    show (match ai_df k M O w i r with
      | some y => bif ai_inm w p (b + s * i) then (ab_ov k M p (ae_num ((b + s * i : Nat) : Int))).bind fun x => (ab_ov k O p (ae_num ((b + s * i : Nat) : Int))).bind fun o => some (ae_add (ae_scl c (ae_sub x o)) y) else some y
      | none => none) = (ab_df k M O w i r).bind fun y => bif ae_inm w p (b + s * i) then (ab_ov k M p (ae_num ((b + s * i : Nat) : Int))).bind fun x => (ab_ov k O p (ae_num ((b + s * i : Nat) : Int))).bind fun o => some (ae_add (ae_scl c (ae_sub x o)) y) else some y
    rw [ai_inm_e, ih]
    cases ab_df k M O w i r <;> rfl
noncomputable def ai_gm (k : ae_K) (M O : List ae_M) (w : ae_Mo) (i : Nat) (g : ab_Gd) : Bool := match ai_df k M O w i g.2.2 with
  | some e => ae_z k e
  | none => false
noncomputable def ai_gn (k : ae_K) (M O : List ae_M) (w : ae_Mo) (i : Nat) (g : ab_Gd) : Bool := match ai_cs k M O w i g.2.2 with
  | some y => ae_z k (ae_pls y (g.1 + g.2.1 * (i : Int)))
  | none => false
/-- a condition that failed fails -/
noncomputable def ai_gs (k : ae_K) (M O : List ae_M) (w : ae_Mo) (i : Nat) (g : ab_Gd) : Bool := Bool.rec (motive := fun _ => Bool) (Bool.rec (motive := fun _ => Bool) (ab_gf k O (ae_num (i : Int)) g) true (ai_gm k M O w i g)) true (ai_utl w i g.2.2)
noncomputable def ai_en (k : ae_K) (M O : List ae_M) (w : ae_Mo) (p j : Nat) (c : Int) (l : List ab_Tt) (i : Nat) : Bool := match ai_cur k M O w p j with
  | some x => (match ai_cs k M O w i l with
    | some y => ae_rg k (ae_sub x y) c c
    | none => false)
  | none => false
noncomputable def ai_r1 (k : ae_K) (M O : List ae_M) (w : ae_Mo) (s : Bool) (t : ab_Ti) (i : Nat) : Bool := match t with
  | (p, b, _, (c, l), gs, st) => Bool.rec (motive := fun _ => Bool) (Bool.rec (motive := fun _ => Bool) (ai_en k M O w p (b + st * i) c l i) true (Bool.rec (motive := fun _ => Bool) false (Bool.rec (motive := fun _ => Bool) (Bool.rec (motive := fun _ => Bool) false (ai_all (ai_gs k M O w i) gs) (ai_utl w i l)) false (ai_inm w p (b + st * i))) s)) true (ai_any (ai_gn k M O w i) gs)
theorem ai_r1_e (k : ae_K) (M O : List ae_M) (w : ae_Mo) (s : Bool) (t : ab_Ti) (i : Nat) : ai_r1 k M O w s t i = ab_r1 k M O w s t i := by
  obtain ⟨p, b, n, ⟨c, l⟩, gs, st⟩ := t
  have hg : ai_gs k M O w i = fun g => ab_utl w i g.2.2 || ab_gm k M O w i g || ab_gf k O (ae_num (i : Int)) g := funext fun g => by
    unfold ai_gs ai_gm ab_gm
    rw [ai_utl_e, ai_df_e]
    cases ab_utl w i g.2.2 with
    | true => rfl
    | false =>
      cases ab_df k M O w i g.2.2 with
      | none => rfl
      | some e => cases hz : ae_z k e <;> simp [hz]
  have hn : ai_gn k M O w i = ab_gn k M O w i := funext fun g => by
    unfold ai_gn ab_gn
    rw [ai_cs_e]
  have he : ai_en k M O w p (b + st * i) c l i = ab_en k M O w (p, b, n, (c, l), gs, st) i := by
    unfold ai_en ab_en
    rw [ai_cur_e, ai_cs_e]
  show Bool.rec (motive := fun _ => Bool) (Bool.rec (motive := fun _ => Bool) (ai_en k M O w p (b + st * i) c l i) true (Bool.rec (motive := fun _ => Bool) false (Bool.rec (motive := fun _ => Bool) (Bool.rec (motive := fun _ => Bool) false (ai_all (ai_gs k M O w i) gs) (ai_utl w i l)) false (ai_inm w p (b + st * i))) s)) true (ai_any (ai_gn k M O w i) gs) = ((s && !(ae_inm w p (b + st * i)) && ab_utl w i l && gs.all fun g => ab_utl w i g.2.2 || ab_gm k M O w i g || ab_gf k O (ae_num (i : Int)) g) || ab_en k M O w (p, b, n, (c, l), gs, st) i || gs.reverse.any (ab_gn k M O w i))
  rw [hg, hn, he, ai_all_e, ai_any_e, ai_utl_e, ai_inm_e, List.any_reverse]
  generalize gs.any (ab_gn k M O w i) = A
  generalize ab_en k M O w (p, b, n, (c, l), gs, st) i = B
  generalize (gs.all fun g => ab_utl w i g.2.2 || ab_gm k M O w i g || ab_gf k O (ae_num (i : Int)) g) = C
  generalize ab_utl w i l = D
  generalize ae_inm w p (b + st * i) = E
  cases A <;> cases B <;> cases C <;> cases D <;> cases E <;> cases s <;> rfl
noncomputable def ai_alr (f : Nat → Bool) (n : Nat) : Bool := Nat.rec (motive := fun _ => Bool) true (fun i r => Bool.rec (motive := fun _ => Bool) false r (f i)) n
theorem ai_alr_e (f : Nat → Bool) : ∀ n : Nat, ai_alr f n = (List.range n).all f
  | 0 => rfl
  | n + 1 => by
    show Bool.rec (motive := fun _ => Bool) false (ai_alr f n) (f n) = _
    rw [List.range_succ, List.all_append, ← ai_alr_e f n, ai_and_e, List.all_cons, List.all_nil, Bool.and_true, Bool.and_comm]
noncomputable def ai_ri2 (k : ae_K) (M O : List ae_M) (w : ae_Mo) (T : List ab_Ti) (s : Bool) (t : ab_Ti) : Bool := Bool.rec (motive := fun _ => Bool) (bif Nat.beq t.2.2.1 30 then ab_rx T w (bif s then [t] else T) t (k, M, O) else ai_alr (fun i => Bool.rec (motive := fun _ => Bool) (ab_rt T w t i (k, M, O) || ab_xg T w t (ae_num (i : Int)) t.2.2.2.2.1 (k, M, O)) true (ai_r1 k M O w s t i)) t.2.2.1) true (Bool.rec (motive := fun _ => Bool) false (ai_nw w t) s)
theorem ai_ri2_e (k : ae_K) (M O : List ae_M) (w : ae_Mo) (T : List ab_Ti) (s : Bool) (t : ab_Ti) : ai_ri2 k M O w T s t = ab_ri2 k M O w T s t := by
  unfold ai_ri2 ab_ri2
  rw [ai_alr_e, ai_or_e, ai_and_e, ai_nw_eq]
  have h : (fun i => Bool.rec (motive := fun _ => Bool) (ab_rt T w t i (k, M, O) || ab_xg T w t (ae_num (i : Int)) t.2.2.2.2.1 (k, M, O)) true (ai_r1 k M O w s t i)) = fun i => ab_r1 k M O w s t i || (ab_rt T w t i (k, M, O) || ab_xg T w t (ae_num (i : Int)) t.2.2.2.2.1 (k, M, O)) := funext fun i => by rw [ai_or_e, ai_r1_e]
  rw [h]
noncomputable def ai_rw (k : ae_K) (M O : List ae_M) (w : ae_Mo) (T T' : List ab_Ti) (f : ab_Ti → Bool) : Bool := ai_all (fun r => match r with
    | (p, a, b) => af_pl p fun p => af_pl (a.toNat / 16) fun u => af_pl (b.toNat / 16) fun v => ai_all (fun t => ai_ri2 k M O w T (f t) t) (ai_tt T' p u v)) w
noncomputable def ab_ric2 (k : ae_K) (M O : List ae_M) (w : ae_Mo) (T T' : List ab_Ti) : Bool := bif (bif ai_few 24 w then ai_nnw w else false) then (match ai_no T T' T with
    | [] => ai_rw k M O w T T' fun _ => true
    | u :: r => bif ai_rw k M O w T T' (ai_mem T) then ai_all (ai_ri2 k M O w T false) (u :: r) else false)
  else ab_rz2 k M O w T T' T
section ABG
variable {L : Nat} {xs : Nat → Int32} {h0 h : List am_E} {w : ae_Mo} {T T' : List ab_Ti}
theorem ab_lq_ok (hr : ae_rok = true) (hT : ab_RI T (ab_cv L xs h0)) (hF : ae_fr w L xs h0 h) {ρ : Nat → Int} {z : ab_Lz} (S : ab_lk L xs h0 h ρ z) (p j : Nat) : ∃ ρ', ae_up2 ρ z.1 ρ' (ab_lq T w z p j).1 ∧ ab_lk L xs h0 h ρ' (ab_lq T w z p j) := by
  unfold ab_lq
  cases hb : Nat.blt 0 p && Nat.ble p ae_np && Nat.blt j (ae_sh p).2.2 with
  | false => exact ⟨ρ, ab_up_rf S.1, S⟩
  | true =>
    simp only [Bool.and_eq_true] at hb
    obtain ⟨⟨b1, b2⟩, b3⟩ := hb
    show ∃ ρ', ae_up2 ρ z.1 ρ' (match ab_ld T w z.1 z.2.1 z.2.2 p (ae_num (j : Int)) with
      | some y => y
      | none => z).1 ∧ ab_lk L xs h0 h ρ' (match ab_ld T w z.1 z.2.1 z.2.2 p (ae_num (j : Int)) with
      | some y => y
      | none => z)
    cases hl : ab_ld T w z.1 z.2.1 z.2.2 p (ae_num (j : Int)) with
    | none => exact ⟨ρ, ab_up_rf S.1, S⟩
    | some y =>
      obtain ⟨ρ', u, H, O⟩ := ab_ld_ok hr S.1 S.2.1 hT hF S.2.2 (ae_num_dn _) (Nat.blt_eq.mp b1) (Nat.le_of_ble_eq_true b2) (Nat.blt_eq.mp b3) hl
      exact ⟨ρ', u, u.2.2, H, O⟩
theorem ab_lqs_ok (hr : ae_rok = true) (hT : ab_RI T (ab_cv L xs h0)) (hF : ae_fr w L xs h0 h) {i : Nat} : ∀ {l : List ab_Tt} {ρ : Nat → Int} {z : ab_Lz}, ab_lk L xs h0 h ρ z → ∃ ρ', ae_up2 ρ z.1 ρ' (ab_lqs T w i l z).1 ∧ ab_lk L xs h0 h ρ' (ab_lqs T w i l z)
  | [], ρ, z, S => ⟨ρ, ab_up_rf S.1, S⟩
  | t :: r, ρ, z, S => by
    obtain ⟨ρ1, u1, S1⟩ := ab_lq_ok hr hT hF S t.2.1 (t.2.2.1 + t.2.2.2 * i)
    obtain ⟨ρ2, u2, S2⟩ := ab_lqs_ok hr hT hF (l := r) S1
    exact ⟨ρ2, u1.tr u2, S2⟩
theorem ab_rz_ok (hr : ae_rok = true) (hT : ab_RI T (ab_cv L xs h0)) (hF : ae_fr w L xs h0 h) {t : ab_Ti} {i : Nat} {ρ : Nat → Int} {z : ab_Lz} (S : ab_lk L xs h0 h ρ z) (q : ab_rz T w t i z = true) : ab_cv L xs h t.1 (t.2.1 + t.st * i) = t.2.2.2.1.1 + ab_sum (ab_cv L xs h) i t.2.2.2.1.2 := by
  unfold ab_rz at q
  obtain ⟨ρ1, u1, S1⟩ := ab_lq_ok hr hT hF S t.1 (t.2.1 + t.st * i)
  obtain ⟨ρ2, u2, S2⟩ := ab_lqs_ok hr hT hF (i := i) (l := t.2.2.2.1.2) S1
  generalize ab_lqs T w i t.2.2.2.1.2 (ab_lq T w z t.1 (t.2.1 + t.st * i)) = y at q S2
  obtain ⟨k, M, O⟩ := y
  obtain ⟨K, H, HO⟩ := S2
  change (match ab_cur k M O w t.1 (t.2.1 + t.st * i) with
    | some x => (match ab_cs k M O w i t.2.2.2.1.2 with
      | some y => ae_rg k (ae_sub x y) t.2.2.2.1.1 t.2.2.2.1.1 || ab_al2 T k O x y t.2.2.2.1.1
      | none => false)
    | none => false) = true at q
  split at q
  · rename_i x hx
    split at q
    · rename_i y hy
      have d1 := ab_cur_ok K H.2.1 hF HO hx
      have d2 := ab_cs_ok K H.2.1 hF HO hy
      rcases Bool.or_eq_true_iff.mp q with q | q
      · have r := ae_rg_ok K q
        rw [ae_sub_ev, d1.2, d2.2] at r
        omega
      · obtain ⟨m, hm, q⟩ := List.any_eq_true.mp q
        simp only [Bool.and_eq_true] at q
        obtain ⟨⟨a1, a2⟩, a3⟩ := q
        obtain ⟨u, hu, q⟩ := List.any_eq_true.mp a3
        split at q
        · rename_i v hv
          obtain ⟨j, c, e1, e2, e3⟩ := HO m hm
          have dv := ab_ti_ok K HO hT e1 hu hv
          have dm := ae_nr_dn K (ab_ok_cv a1 e3 e2)
          have dx := ae_nr_dn K d1
          rw [ae_xe_ok a2] at dm
          have r := ae_rg_ok K q
          rw [ae_sub_ev, dv.2, d2.2] at r
          have := dm.2.symm.trans dx.2
          omega
        · cases q
    · cases q
  · cases q
theorem ab_rg2_ok (hr : ae_rok = true) (hT : ab_RI T (ab_cv L xs h0)) (hF : ae_fr w L xs h0 h) {t : ab_Ti} {i : Nat} : ∀ {gs : List ab_Gd} {ρ : Nat → Int} {z : ab_Lz}, ab_lk L xs h0 h ρ z → ab_rg2 T w t i gs z = true → (∃ g ∈ gs, ab_gd (ab_cv L xs h) i g ≤ 0) ∨ ab_cv L xs h t.1 (t.2.1 + t.st * i) = t.2.2.2.1.1 + ab_sum (ab_cv L xs h) i t.2.2.2.1.2
  | [], ρ, z, S, q => Or.inr (ab_rz_ok hr hT hF S q)
  | g :: r, ρ, z, S, q => by
    by_cases hg : ab_gd (ab_cv L xs h) i g ≤ 0
    · exact Or.inl ⟨g, List.mem_cons_self, hg⟩
    · unfold ab_rg2 at q
      obtain ⟨ρ1, u1, S1⟩ := ab_lqs_ok hr hT hF (i := i) (l := g.2.2) S
      generalize ab_lqs T w i g.2.2 z = y at q S1
      obtain ⟨k, M, O⟩ := y
      obtain ⟨K, H, HO⟩ := S1
      change (match ab_cs k M O w i g.2.2 with
        | some y => (ae_as k (ae_neg (ae_pls y (g.1 + g.2.1 * (i : Int))) 1)).all fun k2 => ab_rg2 T w t i r (k2, M, O)
        | none => false) = true at q
      split at q
      · rename_i y hy
        have d := ab_cs_ok K H.2.1 hF HO hy
        unfold ab_gd at hg
        obtain ⟨k2, m2, K2, n2⟩ := ae_as_ok K (ae_neg_dn (ae_pls_dn d (g.1 + g.2.1 * (i : Int))) 1) (by omega)
        have q := List.all_eq_true.mp q k2 m2
        have n2 : k2.1 = k.1 := n2
        refine (ab_rg2_ok hr hT hF (gs := r) (z := (k2, M, O)) ⟨K2, ?_, ?_⟩ q).imp (fun ⟨g, a, b⟩ => ⟨g, List.mem_cons_of_mem _ a, b⟩) id
        · show ae_hp false k2.1 ρ1 L xs M h; rw [n2]; exact H
        · show ∀ m ∈ O, ae_eo k2.1 ρ1 L xs h0 m; rw [n2]; exact HO
      · cases q
theorem ab_rgo_ok {i : Nat} {M O : List ae_M} (hF : ae_fr w L xs h0 h) : ∀ {gs : List ab_Gd} {ρ : Nat → Int} {k : ae_K}, ab_lk L xs h0 h ρ (k, M, O) → ab_rgo w i M O gs k = true → ∃ g ∈ gs, ab_gd (ab_cv L xs h) i g ≤ 0
  | [], ρ, k, S, q => by cases q
  | g :: r, ρ, k, S, q => by
    by_cases hg : ab_gd (ab_cv L xs h) i g ≤ 0
    · exact ⟨g, List.mem_cons_self, hg⟩
    · unfold ab_rgo at q
      split at q
      · rename_i y hy
        have d := ab_cs_ok S.1 S.2.1.2.1 hF S.2.2 hy
        unfold ab_gd at hg
        obtain ⟨k2, m2, K2, n2⟩ := ae_as_ok S.1 (ae_neg_dn (ae_pls_dn d (g.1 + g.2.1 * (i : Int))) 1) (by omega)
        have q := List.all_eq_true.mp q k2 m2
        have n2 : k2.1 = k.1 := n2
        obtain ⟨g', m', e'⟩ := ab_rgo_ok hF (gs := r) (k := k2) (ρ := ρ) ⟨K2, by show ae_hp false k2.1 ρ L xs M h; rw [n2]; exact S.2.1, by show ∀ m ∈ O, ae_eo k2.1 ρ L xs h0 m; rw [n2]; exact S.2.2⟩ q
        exact ⟨g', List.mem_cons_of_mem _ m', e'⟩
      · obtain ⟨g', m', e'⟩ := ab_rgo_ok hF (gs := r) S q
        exact ⟨g', List.mem_cons_of_mem _ m', e'⟩
theorem ab_lqg_ok (hr : ae_rok = true) (hT : ab_RI T (ab_cv L xs h0)) (hF : ae_fr w L xs h0 h) {i : Nat} : ∀ {l : List ab_Gd} {ρ : Nat → Int} {z : ab_Lz}, ab_lk L xs h0 h ρ z → ∃ ρ', ae_up2 ρ z.1 ρ' (ab_lqg T w i l z).1 ∧ ab_lk L xs h0 h ρ' (ab_lqg T w i l z)
  | [], ρ, z, S => ⟨ρ, ab_up_rf S.1, S⟩
  | g :: r, ρ, z, S => by
    obtain ⟨ρ1, u1, S1⟩ := ab_lqs_ok hr hT hF (i := i) (l := g.2.2) S
    obtain ⟨ρ2, u2, S2⟩ := ab_lqg_ok hr hT hF (l := r) S1
    exact ⟨ρ2, u1.tr u2, S2⟩
theorem ab_rt_ok (hr : ae_rok = true) (hT : ab_RI T (ab_cv L xs h0)) (hF : ae_fr w L xs h0 h) {t : ab_Ti} {i : Nat} {ρ : Nat → Int} {z : ab_Lz} (S : ab_lk L xs h0 h ρ z) (q : ab_rt T w t i z = true) : ab_hold (ab_cv L xs h) t i := by
  unfold ab_rt at q
  cases hR : ab_isR t with
  | false => rw [hR] at q; exact ab_rg2_ok hr hT hF S q
  | true =>
    rw [hR] at q
    obtain ⟨ρ1, u1, S1⟩ := ab_lqg_ok hr hT hF (i := i) (l := t.2.2.2.2.1) S
    exact Or.inl (ab_rgo_ok hF S1 (show ab_rgo w i (ab_lqg T w i t.2.2.2.2.1 z).2.1 (ab_lqg T w i t.2.2.2.2.1 z).2.2 t.2.2.2.2.1 (ab_lqg T w i t.2.2.2.2.1 z).1 = true from q))
theorem ab_np_ok {p a b j : Nat} (h1 : a ≤ j) (h2 : j ≤ b) (q : ab_np w p a b = true) : ae_inm w p j = false := by
  cases hin : ae_inm w p j with
  | false => rfl
  | true =>
    obtain ⟨r, hr, h3⟩ := List.any_eq_true.mp hin
    have h4 := List.all_eq_true.mp q r hr
    simp only [Bool.and_eq_true] at h3
    rw [h3.1.1] at h4
    have h5 := ae_le_iff.mp h3.1.2
    have h6 := ae_le_iff.mp h3.2
    rcases Bool.or_eq_true_iff.mp (show (ae_le (r.2.2 + 1) (a : Int) || ae_le ((b : Int) + 1) r.2.1) = true from h4) with h7 | h7
    · have h7 := ae_le_iff.mp h7
      omega
    · have h7 := ae_le_iff.mp h7
      omega
theorem ab_nt_ok {m i : Nat} (hi : i ≤ m) {l : List ab_Tt} (q : ab_nt w m l = true) : ∀ t ∈ l, ae_inm w t.2.1 (t.2.2.1 + t.2.2.2 * i) = false := fun t ht =>
  ab_np_ok (Nat.le_add_right _ _) (Nat.add_le_add_left (Nat.mul_le_mul_left _ hi) _) (List.all_eq_true.mp q t ht)
theorem ab_nw_ok (hF : ae_fr w L xs h0 h) {t : ab_Ti} {i : Nat} (hi : i < t.2.2.1) (q : ab_nw w t = true) (hh : ab_hold (ab_cv L xs h0) t i) : ab_hold (ab_cv L xs h) t i := by
  unfold ab_nw at q
  simp only [Bool.and_eq_true] at q
  have hm : i ≤ t.2.2.1 - 1 := by omega
  rcases hh with ⟨g, hg, g1⟩ | g1
  · refine Or.inl ⟨g, hg, ?_⟩
    have e := ab_sum_eq (f := ab_cv L xs h0) (g := ab_cv L xs h) (i := i) (l := g.2.2) (fun t ht => ab_cv_fr hF (ab_nt_ok hm (List.all_eq_true.mp q.2 g hg) t ht))
    unfold ab_gd at g1 ⊢
    rw [e]
    exact g1
  · have e := ab_sum_eq (f := ab_cv L xs h0) (g := ab_cv L xs h) (i := i) (l := t.2.2.2.1.2) (fun t ht => ab_cv_fr hF (ab_nt_ok hm q.1.2 t ht))
    refine Or.inr ?_
    rw [e, ab_cv_fr hF (ab_np_ok (Nat.le_add_right _ _) (Nat.add_le_add_left (Nat.mul_le_mul_left _ hm) _) q.1.1)]
    exact g1
theorem ab_cux_ok (hF : ae_fr w L xs h0 h) {ρ : Nat → Int} {k : ae_K} {M O : List ae_M} (S : ab_lk L xs h0 h ρ (k, M, O)) {p j : Nat} {e x : ae_X} (hd : ae_dn k.1 ρ e (j : Int)) (q : ab_cux k M O w p e = some x) : ae_dn k.1 ρ x (ab_cv L xs h p j) := by
  unfold ab_cux at q
  split at q
  · rename_i y hy
    cases q
    exact ab_ov_ok S.1 S.2.1.2.1 hd hy
  · obtain ⟨hb, q⟩ := ae_bif q
    have hin := ab_ou_ok S.1 (ae_nr_dn S.1 hd) hb
    rw [ab_cv_fr hF hin]
    exact ab_ov_ok S.1 S.2.2 hd q
theorem ab_csx_ok (hF : ae_fr w L xs h0 h) {ρ : Nat → Int} {k : ae_K} {M O : List ae_M} (S : ab_lk L xs h0 h ρ (k, M, O)) {i : ae_X} {i0 : Nat} (hi : ae_dn k.1 ρ i (i0 : Int)) : ∀ {l : List ab_Tt} {y : ae_X}, ab_csx k M O w i l = some y → ae_dn k.1 ρ y (ab_sum (ab_cv L xs h) i0 l)
  | [], y, q => by cases q; exact ae_num_dn 0
  | (c, p, b, s) :: r, y, q => by
    obtain ⟨x, h1, q⟩ := Option.bind_eq_some_iff.mp q
    obtain ⟨y', h2, q⟩ := Option.bind_eq_some_iff.mp q
    cases q
    exact ae_add_dn (ae_scl_dn (ab_cux_ok hF S (ab_at_dn hi) h1) c) (ab_csx_ok hF S hi h2)
theorem ab_lx_ok (hr : ae_rok = true) (hT : ab_RI T (ab_cv L xs h0)) (hF : ae_fr w L xs h0 h) {ρ : Nat → Int} {z : ab_Lz} (S : ab_lk L xs h0 h ρ z) {p : Nat} {e : ae_X} (we : ae_wt z.1.1 e.2) : ∃ ρ', ae_up2 ρ z.1 ρ' (ab_lx T w z p e).1 ∧ ab_lk L xs h0 h ρ' (ab_lx T w z p e) := by
  unfold ab_lx
  cases hb : Nat.blt 0 p && Nat.ble p ae_np && ae_rg z.1 e 0 (((ae_sh p).2.2 : Int) - 1) with
  | false => exact ⟨ρ, ab_up_rf S.1, S⟩
  | true =>
    simp only [Bool.and_eq_true] at hb
    obtain ⟨⟨b1, b2⟩, b3⟩ := hb
    have g := ae_rg_ok S.1 b3
    show ∃ ρ', ae_up2 ρ z.1 ρ' (match ab_ld T w z.1 z.2.1 z.2.2 p e with
      | some y => y
      | none => z).1 ∧ ab_lk L xs h0 h ρ' (match ab_ld T w z.1 z.2.1 z.2.2 p e with
      | some y => y
      | none => z)
    cases hl : ab_ld T w z.1 z.2.1 z.2.2 p e with
    | none => exact ⟨ρ, ab_up_rf S.1, S⟩
    | some y =>
      obtain ⟨ρ', u, H, O⟩ := ab_ld_ok hr S.1 S.2.1 hT hF S.2.2 (p := p) (j := (ae_ev ρ e).toNat) (e0 := e) ⟨we, by omega⟩ (Nat.blt_eq.mp b1) (Nat.le_of_ble_eq_true b2) (by omega) hl
      exact ⟨ρ', u, u.2.2, H, O⟩
theorem ab_lxs_ok (hr : ae_rok = true) (hT : ab_RI T (ab_cv L xs h0)) (hF : ae_fr w L xs h0 h) {i : ae_X} : ∀ {l : List ab_Tt} {ρ : Nat → Int} {z : ab_Lz}, ab_lk L xs h0 h ρ z → ae_wt z.1.1 i.2 → ∃ ρ', ae_up2 ρ z.1 ρ' (ab_lxs T w i l z).1 ∧ ab_lk L xs h0 h ρ' (ab_lxs T w i l z)
  | [], ρ, z, S, _ => ⟨ρ, ab_up_rf S.1, S⟩
  | (c, p, b, s) :: r, ρ, z, S, wi => by
    obtain ⟨ρ1, u1, S1⟩ := ab_lx_ok hr hT hF S (p := p) (e := ab_at i b s) (ab_at_wt wi)
    obtain ⟨ρ2, u2, S2⟩ := ab_lxs_ok hr hT hF (i := i) (l := r) S1 (ae_wt_le u1.1 wi)
    exact ⟨ρ2, u1.tr u2, S2⟩
theorem ab_xz_ok (hr : ae_rok = true) (hT : ab_RI T (ab_cv L xs h0)) (hF : ae_fr w L xs h0 h) {t : ab_Ti} {i : ae_X} {i0 : Nat} {ρ : Nat → Int} {z : ab_Lz} (S : ab_lk L xs h0 h ρ z) (hi : ae_dn z.1.1 ρ i (i0 : Int)) (q : ab_xz T w t i z = true) : ab_cv L xs h t.1 (t.2.1 + t.st * i0) = t.2.2.2.1.1 + ab_sum (ab_cv L xs h) i0 t.2.2.2.1.2 := by
  unfold ab_xz at q
  obtain ⟨ρ1, u1, S1⟩ := ab_lx_ok hr hT hF S (p := t.1) (e := ab_at i t.2.1 t.st) (ab_at_wt hi.1)
  obtain ⟨ρ2, u2, S2⟩ := ab_lxs_ok hr hT hF (i := i) (l := t.2.2.2.1.2) S1 (ae_wt_le u1.1 hi.1)
  have hi2 := ae_dn_ext (u1.tr u2).1 (u1.tr u2).2.1 hi
  generalize ab_lxs T w i t.2.2.2.1.2 (ab_lx T w z t.1 (ab_at i t.2.1 t.st)) = y at q S2 hi2
  obtain ⟨k, M, O⟩ := y
  change (match ab_cux k M O w t.1 (ab_at i t.2.1 t.st) with
    | some x => (match ab_csx k M O w i t.2.2.2.1.2 with
      | some y => ae_rg k (ae_sub x y) t.2.2.2.1.1 t.2.2.2.1.1
      | none => false)
    | none => false) = true at q
  split at q
  · rename_i x hx
    split at q
    · rename_i y hy
      have d1 := ab_cux_ok hF S2 (ab_at_dn hi2) hx
      have d2 := ab_csx_ok hF S2 hi2 hy
      have r := ae_rg_ok S2.1 q
      rw [ae_sub_ev, d1.2, d2.2] at r
      omega
    · cases q
  · cases q
theorem ab_xg_ok (hr : ae_rok = true) (hT : ab_RI T (ab_cv L xs h0)) (hF : ae_fr w L xs h0 h) {t : ab_Ti} {i : ae_X} {i0 : Nat} : ∀ {gs : List ab_Gd} {ρ : Nat → Int} {z : ab_Lz}, ab_lk L xs h0 h ρ z → ae_dn z.1.1 ρ i (i0 : Int) → ab_xg T w t i gs z = true → (∃ g ∈ gs, ab_gd (ab_cv L xs h) i0 g ≤ 0) ∨ ab_cv L xs h t.1 (t.2.1 + t.st * i0) = t.2.2.2.1.1 + ab_sum (ab_cv L xs h) i0 t.2.2.2.1.2
  | [], ρ, z, S, hi, q => by
    unfold ab_xg at q
    cases hR : ab_isR t with
    | true => rw [hR] at q; cases q
    | false => rw [hR] at q; exact Or.inr (ab_xz_ok hr hT hF S hi q)
  | g :: r, ρ, z, S, hi, q => by
    by_cases hg : ab_gd (ab_cv L xs h) i0 g ≤ 0
    · exact Or.inl ⟨g, List.mem_cons_self, hg⟩
    · unfold ab_xg at q
      obtain ⟨ρ1, u1, S1⟩ := ab_lxs_ok hr hT hF (i := i) (l := g.2.2) S hi.1
      have hi1 := ae_dn_ext u1.1 u1.2.1 hi
      generalize ab_lxs T w i g.2.2 z = y at q S1 hi1
      obtain ⟨k, M, O⟩ := y
      change (match ab_csx k M O w i g.2.2 with
        | some y => (ae_as k (ae_neg (ae_pls (ae_add (ae_scl g.2.1 i) y) g.1) 1)).all fun k2 => ab_xg T w t i r (k2, M, O)
        | none => ab_xg T w t i r (k, M, O)) = true at q
      have on : ∀ {x : (∃ g ∈ r, ab_gd (ab_cv L xs h) i0 g ≤ 0) ∨ ab_cv L xs h t.1 (t.2.1 + t.st * i0) = t.2.2.2.1.1 + ab_sum (ab_cv L xs h) i0 t.2.2.2.1.2}, (∃ g' ∈ g :: r, ab_gd (ab_cv L xs h) i0 g' ≤ 0) ∨ ab_cv L xs h t.1 (t.2.1 + t.st * i0) = t.2.2.2.1.1 + ab_sum (ab_cv L xs h) i0 t.2.2.2.1.2 := fun {x} => x.imp (fun ⟨g', a, b⟩ => ⟨g', List.mem_cons_of_mem _ a, b⟩) id
      split at q
      · rename_i y hy
        have d := ab_csx_ok hF S1 hi1 hy
        have d2 := ae_pls_dn (ae_add_dn (ae_scl_dn hi1 g.2.1) d) g.1
        unfold ab_gd at hg
        obtain ⟨k2, m2, K2, n2⟩ := ae_as_ok S1.1 (ae_neg_dn d2 1) (by omega)
        have q := List.all_eq_true.mp q k2 m2
        have n2 : k2.1 = k.1 := n2
        refine on (x := ab_xg_ok hr hT hF (gs := r) (ρ := ρ1) (z := (k2, M, O)) ⟨K2, ?_, ?_⟩ ?_ q)
        · show ae_hp false k2.1 ρ1 L xs M h; rw [n2]; exact S1.2.1
        · show ∀ m ∈ O, ae_eo k2.1 ρ1 L xs h0 m; rw [n2]; exact S1.2.2
        · show ae_dn k2.1 ρ1 i (i0 : Int); rw [n2]; exact hi1
      · exact on (x := ab_xg_ok hr hT hF (gs := r) S1 hi1 q)
theorem ab_gpo_ok {ρ : Nat → Int} {k : ae_K} {M O : List ae_M} (S : ab_lk L xs h0 h ρ (k, M, O)) {i : Nat} : ∀ {l : List ab_Tt} {y : ae_X × List ab_Tt}, ab_gpo k O l = some y → ∃ Y : Int, ae_dn k.1 ρ y.1 Y ∧ ab_sum (ab_cv L xs h0) i l = Y + ab_sum (ab_cv L xs h0) i y.2
  | [], y, q => by cases q; exact ⟨0, ae_num_dn 0, by show (0 : Int) = 0 + 0; omega⟩
  | t :: r, y, q => by
    obtain ⟨y', h1, q⟩ := Option.bind_eq_some_iff.mp q
    obtain ⟨Y, d, e⟩ := ab_gpo_ok S (i := i) h1
    have es : ab_sum (ab_cv L xs h0) i (t :: r) = t.1 * ab_cv L xs h0 t.2.1 (t.2.2.1 + t.2.2.2 * i) + ab_sum (ab_cv L xs h0) i r := rfl
    cases hb : Nat.beq t.2.2.2 0 with
    | true =>
      rw [hb] at q
      obtain ⟨x, h2, q⟩ := Option.bind_eq_some_iff.mp q
      cases q
      have dx := ab_ov_ok S.1 S.2.2 (ae_num_dn (t.2.2.1 : Int)) h2
      refine ⟨_, ae_add_dn (ae_scl_dn dx t.1) d, ?_⟩
      rw [es, e, Nat.eq_of_beq_eq_true hb, Nat.zero_mul, Nat.add_zero]
      exact (Int.add_assoc _ _ _).symm
    | false =>
      rw [hb] at q
      cases q
      refine ⟨Y, d, ?_⟩
      show _ = Y + (t.1 * ab_cv L xs h0 t.2.1 (t.2.2.1 + t.2.2.2 * i) + ab_sum (ab_cv L xs h0) i y'.2)
      rw [es, e]
      omega
theorem ab_gpn_ok (hF : ae_fr w L xs h0 h) {ρ : Nat → Int} {k : ae_K} {M O : List ae_M} (S : ab_lk L xs h0 h ρ (k, M, O)) {i : Nat} : ∀ {l : List ab_Tt} {y : ae_X × List ab_Tt}, ab_gpn k M O w l = some y → ∃ Y : Int, ae_dn k.1 ρ y.1 Y ∧ ab_sum (ab_cv L xs h) i l = Y + ab_sum (ab_cv L xs h) i y.2
  | [], y, q => by cases q; exact ⟨0, ae_num_dn 0, by show (0 : Int) = 0 + 0; omega⟩
  | t :: r, y, q => by
    obtain ⟨y', h1, q⟩ := Option.bind_eq_some_iff.mp q
    obtain ⟨Y, d, e⟩ := ab_gpn_ok hF S (i := i) h1
    have es : ab_sum (ab_cv L xs h) i (t :: r) = t.1 * ab_cv L xs h t.2.1 (t.2.2.1 + t.2.2.2 * i) + ab_sum (ab_cv L xs h) i r := rfl
    cases hb : Nat.beq t.2.2.2 0 with
    | true =>
      rw [hb] at q
      obtain ⟨x, h2, q⟩ := Option.bind_eq_some_iff.mp q
      cases q
      have dx := ab_cux_ok hF S (ae_num_dn (t.2.2.1 : Int)) h2
      refine ⟨_, ae_add_dn (ae_scl_dn dx t.1) d, ?_⟩
      rw [es, e, Nat.eq_of_beq_eq_true hb, Nat.zero_mul, Nat.add_zero]
      exact (Int.add_assoc _ _ _).symm
    | false =>
      rw [hb] at q
      cases q
      refine ⟨Y, d, ?_⟩
      show _ = Y + (t.1 * ab_cv L xs h t.2.1 (t.2.2.1 + t.2.2.2 * i) + ab_sum (ab_cv L xs h) i y'.2)
      rw [es, e]
      omega
theorem ab_nt_sum (hF : ae_fr w L xs h0 h) {m i : Nat} (hi : i ≤ m) {l : List ab_Tt} (q : ab_nt w m l = true) : ab_sum (ab_cv L xs h) i l = ab_sum (ab_cv L xs h0) i l :=
  ab_sum_eq (fun t ht => ab_cv_fr hF (ab_nt_ok hi q t ht))
theorem ab_gq_ok (hF : ae_fr w L xs h0 h) {ρ : Nat → Int} {k : ae_K} {M O : List ae_M} (S : ab_lk L xs h0 h ρ (k, M, O)) {i : ae_X} {i0 n : Nat} (hi : ae_dn k.1 ρ i (i0 : Int)) (hn : i0 ≤ n) {g g2 : ab_Gd} (q : ab_gq k M O w i n g g2 = true) (hg : ab_gd (ab_cv L xs h0) i0 g ≤ 0) : ab_gd (ab_cv L xs h) i0 g2 ≤ 0 := by
  unfold ab_gq at q
  rcases Bool.or_eq_true_iff.mp q with q | q
  · rw [Bool.and_eq_true] at q
    have e := ab_qg_ok _ _ q.1
    subst e
    unfold ab_gd at hg ⊢
    rw [ab_nt_sum hF hn q.2]
    exact hg
  · rw [Bool.and_eq_true] at q
    obtain ⟨q1, q⟩ := q
    have q1 := ae_ie_ok q1
    split at q
    · rename_i a ha
      split at q
      · rename_i b hb
        rw [Bool.and_eq_true, Bool.and_eq_true] at q
        obtain ⟨⟨q2, q3⟩, q4⟩ := q
        have e := ab_ql_ok ab_q3_ok q2
        obtain ⟨A, dA, eA⟩ := ab_gpo_ok S (i := i0) ha
        obtain ⟨B, dB, eB⟩ := ab_gpn_ok hF S (i := i0) hb
        have es := ab_nt_sum hF hn q3
        rw [e] at es eA
        unfold ab_gd at hg ⊢
        rw [eB, es, ← q1]
        rw [eA] at hg
        have hX : b.2 = [] → ab_sum (ab_cv L xs h0) i0 b.2 = 0 := fun e => by rw [e]; rfl
        generalize ab_sum (ab_cv L xs h0) i0 b.2 = X at hg hX ⊢
        rcases Bool.or_eq_true_iff.mp q4 with q4 | q4
        · have z := ae_z_ok S.1 q4
          rw [(ae_sub_dn (ae_pls_dn dB g2.1) (ae_pls_dn dA g.1)).2] at z
          omega
        · rw [Bool.and_eq_true] at q4
          have nil : b.2 = [] := by rw [← e]; exact List.isEmpty_iff.mp q4.1
          have hX := hX nil
          have da := ae_pls_dn (ae_add_dn (ae_scl_dn hi g.2.1) dA) g.1
          obtain ⟨k2, m2, K2, n2⟩ := ae_as_ok S.1 da (by omega)
          have z := ae_z_ok K2 (List.all_eq_true.mp q4.2 k2 m2)
          rw [(ae_pls_dn (ae_add_dn (ae_scl_dn hi g2.2.1) dB) g2.1).2, ← q1] at z
          omega
      · cases q
    · cases q
theorem ab_gy_ok (hF : ae_fr w L xs h0 h) {ρ : Nat → Int} {k : ae_K} {M O : List ae_M} (S : ab_lk L xs h0 h ρ (k, M, O)) {i : ae_X} {i0 : Nat} (hi : ae_dn k.1 ρ i (i0 : Int)) {g : ab_Gd} (q : ab_gy k M O w i g = true) : ab_gd (ab_cv L xs h) i0 g ≤ 0 := by
  unfold ab_gy at q
  split at q
  · rename_i y hy
    have d := ab_csx_ok hF S hi hy
    have z := ae_z_ok S.1 q
    rw [(ae_pls_dn (ae_add_dn (ae_scl_dn hi g.2.1) d) g.1).2] at z
    unfold ab_gd
    omega
  · cases q
theorem ab_sh_ok {u t : ab_Ti} (q : ab_sh u t = true) : u.1 = t.1 ∧ u.2.1 = t.2.1 ∧ u.2.2.1 = t.2.2.1 ∧ u.2.2.2.1.1 = t.2.2.2.1.1 ∧ u.2.2.2.1.2 = t.2.2.2.1.2 ∧ u.st = t.st := by
  unfold ab_sh at q
  simp only [Bool.and_eq_true] at q
  obtain ⟨⟨⟨⟨⟨q1, q2⟩, q3⟩, q4⟩, q5⟩, q6⟩ := q
  exact ⟨Nat.eq_of_beq_eq_true q1, Nat.eq_of_beq_eq_true q2, Nat.eq_of_beq_eq_true q3, ae_ie_ok q4, ab_ql_ok ab_q3_ok q5, Nat.eq_of_beq_eq_true q6⟩
theorem ab_sy_ok {C : List ab_Ti} (hC : ∀ u ∈ C, u ∈ T) (hT : ab_RI T (ab_cv L xs h0)) (hF : ae_fr w L xs h0 h) {ρ : Nat → Int} {k : ae_K} {M O : List ae_M} (S : ab_lk L xs h0 h ρ (k, M, O)) {t : ab_Ti} {i : ae_X} {i0 : Nat} (hi : ae_dn k.1 ρ i (i0 : Int)) (hn : i0 < t.2.2.1) (q : ab_sy C w k M O t i = true) : ab_hold (ab_cv L xs h) t i0 := by
  unfold ab_sy at q
  rcases Bool.or_eq_true_iff.mp q with q | q
  · obtain ⟨g, hg, q⟩ := List.any_eq_true.mp q
    exact Or.inl ⟨g, hg, ab_gy_ok hF S hi q⟩
  · simp only [Bool.and_eq_true] at q
    obtain ⟨⟨q1, q2⟩, q3⟩ := q
    obtain ⟨u, hu, q3⟩ := List.any_eq_true.mp q3
    rw [Bool.and_eq_true] at q3
    obtain ⟨e1, e2, e3, e4, e5, e6⟩ := ab_sh_ok q3.1
    have hm : i0 ≤ t.2.2.1 - 1 := by omega
    rcases hT u (hC u hu) i0 (by omega) with ⟨g, hg, h1⟩ | h1
    · rcases Bool.or_eq_true_iff.mp (List.all_eq_true.mp q3.2 g hg) with q4 | q4
      · obtain ⟨g2, hg2, q4⟩ := List.any_eq_true.mp q4
        exact Or.inl ⟨g2, hg2, ab_gq_ok hF S hi hm q4 h1⟩
      · exact absurd h1 (ab_gf_ok S.1 S.2.2 hi q4)
    · refine Or.inr ?_
      rw [ab_nt_sum hF hm q2, ab_cv_fr hF (ab_np_ok (Nat.le_add_right _ _) (Nat.add_le_add_left (Nat.mul_le_mul_left _ hm) _) q1)]
      rw [e1, e2, e4, e5, e6] at h1
      exact h1
theorem ab_xr_ok {C : List ab_Ti} (hC : ∀ u ∈ C, u ∈ T) (hT : ab_RI T (ab_cv L xs h0)) (hF : ae_fr w L xs h0 h) {t : ab_Ti} {i : ae_X} {i0 : Nat} (hn : i0 < t.2.2.1) {M O : List ae_M} : ∀ {es : List ae_X} {ρ : Nat → Int} {k : ae_K}, ab_lk L xs h0 h ρ (k, M, O) → ae_dn k.1 ρ i (i0 : Int) → (∀ e ∈ es, ae_wt k.1 e.2 ∧ ae_ev ρ e ≠ (i0 : Int)) → ab_xr C w t i M O es k = true → ab_hold (ab_cv L xs h) t i0
  | [], ρ, k, S, hi, _, q => ab_sy_ok hC hT hF S hi hn q
  | e :: r, ρ, k, S, hi, he, q => by
    unfold ab_xr at q
    rw [Bool.and_eq_true] at q
    obtain ⟨w1, w2⟩ := he e List.mem_cons_self
    have de : ae_dn k.1 ρ e (ae_ev ρ e) := ⟨w1, rfl⟩
    have on : ∀ k2 : ae_K, ae_okK ρ k2 → k2.1 = k.1 → ab_xr C w t i M O r k2 = true → ab_hold (ab_cv L xs h) t i0 := fun k2 K2 n2 q => ab_xr_ok hC hT hF hn (es := r) (ρ := ρ) (k := k2) ⟨K2, by show ae_hp false k2.1 ρ L xs M h; rw [n2]; exact S.2.1, by show ∀ m ∈ O, ae_eo k2.1 ρ L xs h0 m; rw [n2]; exact S.2.2⟩ (by rw [n2]; exact hi) (fun e' he' => by rw [n2]; exact he e' (List.mem_cons_of_mem _ he')) q
    rcases Int.lt_or_gt_of_ne w2 with h1 | h1
    · obtain ⟨k2, m2, K2, n2⟩ := ae_as_ok S.1 (ae_pls_dn (ae_sub_dn de hi) 1) (by omega)
      exact on k2 K2 n2 (List.all_eq_true.mp q.2 k2 m2)
    · obtain ⟨k2, m2, K2, n2⟩ := ae_as_ok S.1 (ae_pls_dn (ae_sub_dn hi de) 1) (by omega)
      exact on k2 K2 n2 (List.all_eq_true.mp q.1 k2 m2)
theorem ab_rx_ok (hr : ae_rok = true) {C : List ab_Ti} (hC : ∀ u ∈ C, u ∈ T) (hT : ab_RI T (ab_cv L xs h0)) (hF : ae_fr w L xs h0 h) {t : ab_Ti} {ρ : Nat → Int} {z : ab_Lz} (S : ab_lk L xs h0 h ρ z) (q : ab_rx T w C t z = true) : ∀ i, i < t.2.2.1 → ab_hold (ab_cv L xs h) t i := by
  intro i0 h0'
  obtain ⟨k, M, O⟩ := z
  have q : (((ab_xe k O).all fun e => (ae_ask k [ae_neg e 0, ae_pls e (1 - (t.2.2.1 : Int))]).all fun k2 => ab_sy C w k2 M O t e || ab_xg T w t e t.2.2.2.2.1 (k2, M, O)) && ab_xr C w t (ae_sym k.1) M O (ab_xe k O) (ae_new k 0 ((t.2.2.1 : Int) - 1))) = true := q
  rw [Bool.and_eq_true] at q
  have wes : ∀ e ∈ ab_xe k O, ae_wt k.1 e.2 := fun e he => ae_wb_ok (List.mem_filter.mp he).2
  by_cases hx : ∃ e ∈ ab_xe k O, ae_ev ρ e = (i0 : Int)
  · obtain ⟨e, he, ev⟩ := hx
    have de : ae_dn k.1 ρ e (i0 : Int) := ⟨wes e he, ev⟩
    obtain ⟨k2, m2, K2, n2⟩ := ae_ask_ok (es := [ae_neg e 0, ae_pls e (1 - (t.2.2.1 : Int))]) S.1 (fun x hx => by
      rcases List.mem_cons.mp hx with rfl | hx
      · have d := ae_neg_dn de 0
        exact ⟨d.1, by rw [d.2]; omega⟩
      · rw [List.mem_singleton.mp hx]
        have d := ae_pls_dn de (1 - (t.2.2.1 : Int))
        exact ⟨d.1, by rw [d.2]; omega⟩)
    have n2 : k2.1 = k.1 := n2
    have S2 : ab_lk L xs h0 h ρ (k2, M, O) := ⟨K2, by show ae_hp false k2.1 ρ L xs M h; rw [n2]; exact S.2.1, by show ∀ m ∈ O, ae_eo k2.1 ρ L xs h0 m; rw [n2]; exact S.2.2⟩
    have de2 : ae_dn k2.1 ρ e (i0 : Int) := by rw [n2]; exact de
    rcases Bool.or_eq_true_iff.mp (List.all_eq_true.mp (List.all_eq_true.mp q.1 e he) k2 m2) with q | q
    · exact ab_sy_ok hC hT hF S2 de2 h0' q
    · exact ab_xg_ok hr hT hF (z := (k2, M, O)) (ρ := ρ) S2 de2 q
  · have KN : ae_okK (ae_up ρ k.1 (i0 : Int)) (ae_new k 0 ((t.2.2.1 : Int) - 1)) := ae_new_ok S.1 (by omega) (by omega)
    have ag := ae_up_ag ρ k.1 (i0 : Int)
    have le : k.1 ≤ (ae_new k 0 ((t.2.2.1 : Int) - 1)).1 := Nat.le_succ _
    refine ab_xr_ok hC hT hF h0' (ρ := ae_up ρ k.1 (i0 : Int)) (k := ae_new k 0 ((t.2.2.1 : Int) - 1)) ⟨KN, ae_hp_ext le ag S.2.1, fun m hm => ae_eo_ext le ag (S.2.2 m hm)⟩ ?_ (fun e he => ⟨ae_wt_le le (wes e he), ?_⟩) q.2
    · have d := ae_sym_dn (n := k.1 + 1) (ρ := ae_up ρ k.1 (i0 : Int)) (Nat.lt_succ_self k.1)
      rw [ae_up_at] at d
      exact d
    · rw [ae_ev_ag ag (wes e he)]
      exact fun h => hx ⟨e, he, h⟩
theorem ab_ri2_ok (hr : ae_rok = true) {ρ : Nat → Int} {k : ae_K} {M O : List ae_M} (hT : ab_RI T (ab_cv L xs h0)) (hF : ae_fr w L xs h0 h) (S : ab_lk L xs h0 h ρ (k, M, O)) {s : Bool} {t : ab_Ti} (hs : s = true → t ∈ T) (q : ab_ri2 k M O w T s t = true) : ∀ i, i < t.2.2.1 → ab_hold (ab_cv L xs h) t i := by
  intro i hi
  rcases Bool.or_eq_true_iff.mp (show ((s && ab_nw w t) || bif Nat.beq t.2.2.1 30 then ab_rx T w (bif s then [t] else T) t (k, M, O) else (List.range t.2.2.1).all fun i => ab_r1 k M O w s t i || (ab_rt T w t i (k, M, O) || ab_xg T w t (ae_num (i : Int)) t.2.2.2.2.1 (k, M, O))) = true from q) with q | q
  · rw [Bool.and_eq_true] at q
    exact ab_nw_ok hF hi q.2 (hT t (hs q.1) i hi)
  cases h30 : Nat.beq t.2.2.1 30 with
  | true =>
    rw [h30] at q
    refine ab_rx_ok hr (C := bif s then [t] else T) (fun u hu => ?_) hT hF S q i hi
    cases s with
    | true => rw [List.mem_singleton.mp (show u ∈ [t] from hu)]; exact hs rfl
    | false => exact hu
  | false =>
  rw [h30] at q
  have q := List.all_eq_true.mp q i (List.mem_range.mpr hi)
  rcases Bool.or_eq_true_iff.mp q with q | q
  · exact ab_r1_ok S.1 S.2.1.2.1 hF S.2.2 (fun e => hT t (hs e) i hi) q
  rcases Bool.or_eq_true_iff.mp q with q | q
  · exact ab_rt_ok hr hT hF S q
  · exact ab_xg_ok hr hT hF (z := (k, M, O)) (ρ := ρ) S (ae_num_dn _) q
theorem ab_rz2_ok (hr : ae_rok = true) {ρ : Nat → Int} {k : ae_K} {M O : List ae_M} (hT : ab_RI T (ab_cv L xs h0)) (hF : ae_fr w L xs h0 h) (S : ab_lk L xs h0 h ρ (k, M, O)) : ∀ {A B : List ab_Ti}, (∀ u ∈ B, u ∈ T) → ab_rz2 k M O w T A B = true → ab_RI A (ab_cv L xs h)
  | [], _, _, _ => fun _ ht => absurd ht List.not_mem_nil
  | t :: r, B, hB, q => by
    have q : (match ab_sk t B with
      | some s => bif ai_nw w t then ab_rz2 k M O w T r s else bif ab_ri2 k M O w T true t then ab_rz2 k M O w T r s else false
      | none => bif ab_ri2 k M O w T (ai_mem T t) t then ab_rz2 k M O w T r B else false) = true := q
    cases hs : ab_sk t B with
    | some s =>
      rw [hs] at q
      have q : (bif ai_nw w t then ab_rz2 k M O w T r s else bif ab_ri2 k M O w T true t then ab_rz2 k M O w T r s else false) = true := q
      have q : ab_ri2 k M O w T true t = true ∧ ab_rz2 k M O w T r s = true := by
        cases hn : ai_nw w t with
        | true =>
          rw [hn] at q
          exact ⟨ai_nw_ri hn k M O T, q⟩
        | false =>
          rw [hn] at q
          exact ai_bif q
      obtain ⟨h1, h2⟩ := ab_sk_ok hs
      intro t' ht'
      rcases List.mem_cons.mp ht' with rfl | ht'
      · exact ab_ri2_ok hr hT hF S (fun _ => hB _ h1) q.1
      · exact ab_rz2_ok hr hT hF S (fun u hu => hB u (h2 u hu)) q.2 t' ht'
    | none =>
      rw [hs] at q
      have q := ai_bif (show (bif ab_ri2 k M O w T (ai_mem T t) t then ab_rz2 k M O w T r B else false) = true from q)
      intro t' ht'
      rcases List.mem_cons.mp ht' with rfl | ht'
      · exact ab_ri2_ok hr hT hF S (fun hs => ai_mem_ok hs) q.1
      · exact ab_rz2_ok hr hT hF S hB q.2 t' ht'
theorem ab_ric2_ok (hr : ae_rok = true) {ρ : Nat → Int} {k : ae_K} {M O : List ae_M} (hK : ae_okK ρ k) (hH : ae_hp false k.1 ρ L xs M h) (hT : ab_RI T (ab_cv L xs h0)) (hF : ae_fr w L xs h0 h) (hO : ∀ m ∈ O, ae_eo k.1 ρ L xs h0 m) (q : ab_ric2 k M O w T T' = true) : ab_RI T' (ab_cv L xs h) := by
  unfold ab_ric2 at q
  cases hn : (bif ai_few 24 w then ai_nnw w else false) with
  | false =>
    rw [hn] at q
    exact ab_rz2_ok hr hT hF ⟨hK, hH, hO⟩ (fun _ h => h) q
  | true =>
    rw [hn] at q
    have q : ∃ f : ab_Ti → Bool, ai_rw k M O w T T' f = true ∧ (∀ t ∈ T', f t = true → t ∈ T) ∧ ai_all (ai_ri2 k M O w T false) (ai_no T T' T) = true := by
      cases hx : ai_no T T' T with
      | nil =>
        rw [hx] at q
        refine ⟨fun _ => true, q, fun t ht _ => ?_, rfl⟩
        rcases ai_io (fun _ h => h) t ht with g | g
        · exact g
        · rw [hx] at g
          exact absurd g List.not_mem_nil
      | cons u r =>
        rw [hx] at q
        obtain ⟨q1, q2⟩ := ai_bif (show (bif ai_rw k M O w T T' (ai_mem T) then ai_all (ai_ri2 k M O w T false) (u :: r) else false) = true from q)
        exact ⟨ai_mem T, q1, fun t _ h => ai_mem_ok h, q2⟩
    obtain ⟨f, q1, q0, q2⟩ := q
    have hw : ∀ r ∈ w, 0 ≤ r.2.1 ∧ 0 ≤ r.2.2 := fun r hr => by
      have h := ai_all_mem (ai_bif hn).2 r hr
      obtain ⟨p, a, b⟩ := r
      obtain ⟨h1, h2⟩ := ai_bif (show (bif ae_nn a then ae_nn b else false) = true from h)
      exact ⟨ae_nn_iff.mp h1, ae_nn_iff.mp h2⟩
    intro t ht
    rcases ai_io (fun _ h => h) t ht with i2 | i1
    · by_cases hx : ∀ r ∈ w, ab_nw (ai_R r) t = true
      · exact ab_ri2_ok hr hT hF ⟨hK, hH, hO⟩ (fun _ => i2) (ai_nw_ri (by rw [ai_nw_eq]; exact ai_nww hw hx) k M O T)
      · obtain ⟨r, hr', h3⟩ : ∃ r ∈ w, ab_nw (ai_R r) t = false := by
          by_cases hy : ∃ r ∈ w, ab_nw (ai_R r) t = false
          · exact hy
          · exact absurd (fun r hr => by
              cases h : ab_nw (ai_R r) t with
              | true => rfl
              | false => exact absurd ⟨r, hr, h⟩ hy) hx
        have h4 := ai_all_mem q1 r hr'
        obtain ⟨p, a, b⟩ := r
        change af_pl p (fun p => af_pl (a.toNat / 16) fun u => af_pl (b.toNat / 16) fun v => ai_all (fun t => ai_ri2 k M O w T (f t) t) (ai_tt T' p u v)) = true at h4
        rw [af_pl_ok, af_pl_ok, af_pl_ok] at h4
        have h3 : ab_nw [(p, ((16 * (a.toNat / 16) : Nat) : Int), ((16 * (b.toNat / 16) + 15 : Nat) : Int))] t = false := h3
        have h5 : ai_spk p t = true := by
          cases h : ai_spk p t with
          | true => rfl
          | false =>
            rw [ai_spk0 _ _ h] at h3
            cases h3
        exact ab_ri2_ok (s := f t) hr hT hF ⟨hK, hH, hO⟩ (fun h => q0 t ht h) (by rw [← ai_ri2_e]; exact ai_all_mem h4 t (ai_flt_mem (ai_flt_mem ht h5) (by rw [ai_nw_eq, h3]; rfl)))
    · exact ab_ri2_ok (s := false) hr hT hF ⟨hK, hH, hO⟩ (fun h => by cases h) (by rw [← ai_ri2_e]; exact ai_all_mem q2 t i1)
end ABG

/-! Ties: cells whose numbers go with other cells' -/
/-- so many times the cell at place, first index, stride -/
abbrev ab_Tt : Type := Int × Nat × Nat × Nat
abbrev ab_Gd : Type := Int × Int × List ab_Tt
/-- a tie: place, first index, how many; its number is so much and so many times other cells; or one of these is no greater than 0; its stride -/
abbrev ab_Ti : Type := Nat × Nat × Nat × (Int × List ab_Tt) × List ab_Gd × Nat
abbrev ab_Ti.st (t : ab_Ti) : Nat := t.2.2.2.2.2
noncomputable def ab_vz (o : Option Value) : Int := match o with
  | some (.int x) => x.toInt
  | some (.long x) => x.toInt
  | _ => 0
noncomputable def ab_cv (L : Nat) (xs : Nat → Int32) (h : List am_E) (p j : Nat) : Int := ab_vz (ae_cell L xs h p j)
noncomputable def ab_sum (f : Nat → Nat → Int) (i : Nat) : List ab_Tt → Int
  | [] => 0
  | t :: r => t.1 * f t.2.1 (t.2.2.1 + t.2.2.2 * i) + ab_sum f i r
noncomputable def ab_gd (f : Nat → Nat → Int) (i : Nat) (g : ab_Gd) : Int := g.1 + g.2.1 * (i : Int) + ab_sum f i g.2.2
noncomputable def ab_hold (f : Nat → Nat → Int) (t : ab_Ti) (i : Nat) : Prop := (∃ g ∈ t.2.2.2.2.1, ab_gd f i g ≤ 0) ∨ f t.1 (t.2.1 + t.st * i) = t.2.2.2.1.1 + ab_sum f i t.2.2.2.1.2
noncomputable def ab_RI (T : List ab_Ti) (f : Nat → Nat → Int) : Prop := ∀ t ∈ T, ∀ i, i < t.2.2.1 → ab_hold f t i
theorem ab_sum_eq {f g : Nat → Nat → Int} {i : Nat} : ∀ {l : List ab_Tt}, (∀ t ∈ l, g t.2.1 (t.2.2.1 + t.2.2.2 * i) = f t.2.1 (t.2.2.1 + t.2.2.2 * i)) → ab_sum g i l = ab_sum f i l
  | [], _ => rfl
  | t :: r, h => by
    show t.1 * g t.2.1 (t.2.2.1 + t.2.2.2 * i) + ab_sum g i r = t.1 * f t.2.1 (t.2.2.1 + t.2.2.2 * i) + ab_sum f i r
    rw [h t List.mem_cons_self, ab_sum_eq (l := r) (fun t ht => h t (List.mem_cons_of_mem _ ht))]
theorem ab_RI_eq {f g : Nat → Nat → Int} (e : ∀ p j, g p j = f p j) {T : List ab_Ti} (q : ab_RI T f) : ab_RI T g := by
  have : g = f := funext fun p => funext fun j => e p j
  rw [this]; exact q
/-! what the entries of old say -/
noncomputable def ab_ou (k : ae_K) (w : ae_Mo) (p : Nat) (e : ae_X) : Bool := ae_ou k w (p, e, (0, 0, ae_num 0), false)
/-- an entry of the same cell, its index looked at anew -/
noncomputable def ab_fa (k : ae_K) (M : List ae_M) (p : Nat) (e : ae_X) : Option ae_M := List.rec (motive := fun _ => Option ae_M) none (fun m _ r => Bool.rec (motive := fun _ => Option ae_M) r (Bool.rec (motive := fun _ => Option ae_M) (Bool.rec (motive := fun _ => Option ae_M) r (some m) (ae_xe (ae_nr k m.2.1) e)) r m.2.2.2) (Nat.beq m.1 p)) M
theorem ab_fa_f {k : ae_K} {p : Nat} {e : ae_X} : ∀ M : List ae_M, ab_fa k M p e = M.find? fun m => Nat.beq m.1 p && !m.2.2.2 && ae_xe (ae_nr k m.2.1) e
  | [] => rfl
  | m :: r => by
    rw [List.find?_cons, ← ab_fa_f r]
    show Bool.rec (motive := fun _ => Option ae_M) (ab_fa k r p e) (Bool.rec (motive := fun _ => Option ae_M) (Bool.rec (motive := fun _ => Option ae_M) (ab_fa k r p e) (some m) (ae_xe (ae_nr k m.2.1) e)) (ab_fa k r p e) m.2.2.2) (Nat.beq m.1 p) = _
    cases Nat.beq m.1 p with
    | false => rfl
    | true =>
      cases m.2.2.2 with
      | true => rfl
      | false => cases ae_xe (ae_nr k m.2.1) e <;> rfl
noncomputable def ab_ov (k : ae_K) (O : List ae_M) (p : Nat) (e : ae_X) : Option ae_X := (ab_fa k O p (ae_nr k e)).bind fun m => bif Nat.blt m.2.2.1.1 2 then some m.2.2.1.2.2 else none
/-- from a place on, by a stride -/
noncomputable def ab_at (i : ae_X) (b s : Nat) : ae_X := match s with
  | 0 => ae_num (b : Int)
  | 1 => ae_pls i (b : Int)
  | _ => ae_pls (ae_scl (s : Int) i) (b : Int)
/-- how many strides -/
noncomputable def ab_dv (s : Nat) (e : ae_X) : Option ae_X := match s with
  | 0 => none
  | 1 => some e
  | _ => bif ae_ie (e.1 % (s : Int)) 0 && e.2.all (fun t => ae_ie (t.2 % (s : Int)) 0) then some (e.1 / (s : Int), e.2.map fun t => (t.1, t.2 / (s : Int))) else none
noncomputable def ab_os (k : ae_K) (O : List ae_M) (i : ae_X) : List ab_Tt → Option ae_X
  | [] => some (ae_num 0)
  | t :: r => (ab_ov k O t.2.1 (ab_at i t.2.2.1 t.2.2.2)).bind fun x => (ab_os k O i r).bind fun y => some (ae_add (ae_scl t.1 x) y)
noncomputable def ab_gf (k : ae_K) (O : List ae_M) (i : ae_X) (g : ab_Gd) : Bool := match ab_os k O i g.2.2 with
  | some y => ae_z k (ae_neg (ae_add (ae_scl g.2.1 i) y) (1 - g.1))
  | none => false
/-- which one of a tie a cell is -/
noncomputable def ab_ix (k : ae_K) (p : Nat) (e : ae_X) (t : ab_Ti) : Option ae_X := bif Nat.beq t.1 p then (ab_dv t.st (ae_pls e (-(t.2.1 : Int)))).bind fun i => bif (bif ae_kc i then ae_nn i.1 && ae_le (i.1 + 1) (t.2.2.1 : Int) else ae_rg k i 0 ((t.2.2.1 : Int) - 1)) then some i else none else none
noncomputable def ab_ti (k : ae_K) (O : List ae_M) (p : Nat) (e : ae_X) (t : ab_Ti) : Option ae_X := (ab_ix k p e t).bind fun i =>
  bif t.2.2.2.2.1.all (ab_gf k O i) then (ab_os k O i t.2.2.2.1.2).bind fun y => some (ae_pls y t.2.2.2.1.1) else none
noncomputable def ab_tv (k : ae_K) (O : List ae_M) (T : List ab_Ti) (p : Nat) (e : ae_X) : Option ae_X := T.findSome? (ab_ti k O p e)
section ABA
variable {L : Nat} {xs : Nat → Int32} {ρ : Nat → Int} {k : ae_K} {O : List ae_M} {h0 h : List am_E}
theorem ab_ok_cv {n : Nat} {a : ae_V} {v : Value} {p j : Nat} (ha : Nat.blt a.1 2 = true) (hv : ae_ok n ρ a v) (hc : ae_cell L xs h p j = some v) : ae_dn n ρ a.2.2 (ab_cv L xs h p j) := by
  unfold ab_cv
  rw [hc]
  obtain ⟨t, q, e⟩ := a
  match t, ha, hv with
  | 0, _, hv => obtain ⟨x, rfl, d⟩ := hv; exact d
  | 1, _, hv => obtain ⟨x, rfl, d⟩ := hv; exact d
  | t + 2, ha, _ => exact absurd (Nat.blt_eq.mp ha) (by show ¬ t + 2 < 2; omega)
theorem ab_fa_ok (hK : ae_okK ρ k) (hO : ∀ m ∈ O, ae_eo k.1 ρ L xs h m) {p j : Nat} {e : ae_X} (hd : ae_dn k.1 ρ e (j : Int)) {m : ae_M} (q : ab_fa k O p e = some m) : ∃ v, ae_cell L xs h p j = some v ∧ ae_ok k.1 ρ m.2.2.1 v := by
  rw [ab_fa_f] at q
  have h1 := List.mem_of_find?_eq_some q
  have h2 := List.find?_some q
  simp only [Bool.and_eq_true] at h2
  obtain ⟨⟨b1, -⟩, b3⟩ := h2
  obtain ⟨j', v, d1, c1, o1⟩ := hO m h1
  have d1 := ae_nr_dn hK d1
  rw [ae_xe_ok b3] at d1
  have : j' = j := by have := d1.2; rw [hd.2] at this; omega
  subst this
  rw [Nat.eq_of_beq_eq_true b1] at c1
  exact ⟨v, c1, o1⟩
theorem ab_ov_ok (hK : ae_okK ρ k) (hO : ∀ m ∈ O, ae_eo k.1 ρ L xs h m) {p j : Nat} {e x : ae_X} (hd : ae_dn k.1 ρ e (j : Int)) (q : ab_ov k O p e = some x) : ae_dn k.1 ρ x (ab_cv L xs h p j) := by
  obtain ⟨m, h1, q⟩ := Option.bind_eq_some_iff.mp q
  obtain ⟨hb, q⟩ := ae_bif q
  cases q
  obtain ⟨v, c1, o1⟩ := ab_fa_ok hK hO (ae_nr_dn hK hd) h1
  exact ab_ok_cv hb o1 c1
theorem ab_at_dn {n : Nat} {i : ae_X} {i0 b s : Nat} (hi : ae_dn n ρ i (i0 : Int)) : ae_dn n ρ (ab_at i b s) ((b + s * i0 : Nat) : Int) := by
  match s with
  | 0 =>
    rw [show b + 0 * i0 = b by omega]
    exact ae_num_dn _
  | 1 =>
    have d := ae_pls_dn hi (b : Int)
    rw [show (i0 : Int) + (b : Int) = ((b + 1 * i0 : Nat) : Int) by omega] at d
    exact d
  | s + 2 =>
    have d := ae_pls_dn (ae_scl_dn hi ((s + 2 : Nat) : Int)) (b : Int)
    rw [show ((s + 2 : Nat) : Int) * (i0 : Int) + (b : Int) = ((b + (s + 2) * i0 : Nat) : Int) by rw [Int.natCast_add b ((s + 2) * i0), Int.natCast_mul (s + 2) i0]; exact Int.add_comm _ _] at d
    exact d
theorem ab_dv_et {s : Nat} (hs : 0 < s) : ∀ {l : ae_T}, l.all (fun t => ae_ie (t.2 % (s : Int)) 0) = true → (s : Int) * ae_et ρ (l.map fun t => (t.1, t.2 / (s : Int))) = ae_et ρ l ∧ (∀ n, ae_wt n l → ae_wt n (l.map fun t => (t.1, t.2 / (s : Int))))
  | [], _ => ⟨Int.mul_zero _, fun _ _ => trivial⟩
  | t :: r, q => by
    rw [List.all_cons, Bool.and_eq_true] at q
    obtain ⟨ih1, ih2⟩ := ab_dv_et hs (l := r) q.2
    refine ⟨?_, fun n h => ⟨h.1, ih2 n h.2⟩⟩
    have e : t.2 % (s : Int) = 0 := ae_ie_ok q.1
    have e2 : (s : Int) * (t.2 / (s : Int)) = t.2 := Int.mul_ediv_cancel' (Int.dvd_of_emod_eq_zero e)
    show (s : Int) * (t.2 / (s : Int) * ρ t.1 + ae_et ρ (r.map fun t => (t.1, t.2 / (s : Int)))) = t.2 * ρ t.1 + ae_et ρ r
    rw [Int.mul_add, ih1, ← Int.mul_assoc, e2]
theorem ab_dv_dn {n s : Nat} {e i : ae_X} {x : Int} (hd : ae_dn n ρ e x) (q : ab_dv s e = some i) : ∃ y : Int, ae_dn n ρ i y ∧ x = (s : Int) * y := by
  match s, q with
  | 0, q => cases q
  | 1, q => cases q; exact ⟨x, hd, by omega⟩
  | s + 2, q =>
    obtain ⟨hb, q⟩ := ae_bif (show (bif _ then _ else none) = some i from q)
    cases q
    rw [Bool.and_eq_true] at hb
    obtain ⟨h1, h2⟩ := ab_dv_et (ρ := ρ) (s := s + 2) (by omega) hb.2
    have em : e.1 % ((s + 2 : Nat) : Int) = 0 := ae_ie_ok hb.1
    have e2 : ((s + 2 : Nat) : Int) * (e.1 / ((s + 2 : Nat) : Int)) = e.1 := Int.mul_ediv_cancel' (Int.dvd_of_emod_eq_zero em)
    refine ⟨_, ⟨h2 _ hd.1, rfl⟩, ?_⟩
    show x = ((s + 2 : Nat) : Int) * (e.1 / ((s + 2 : Nat) : Int) + ae_et ρ (e.2.map fun t => (t.1, t.2 / ((s + 2 : Nat) : Int))))
    rw [Int.mul_add, h1, e2]
    exact hd.2.symm
theorem ab_os_ok (hK : ae_okK ρ k) (hO : ∀ m ∈ O, ae_eo k.1 ρ L xs h m) {i : ae_X} {i0 : Nat} (hi : ae_dn k.1 ρ i (i0 : Int)) : ∀ {l : List ab_Tt} {y : ae_X}, ab_os k O i l = some y → ae_dn k.1 ρ y (ab_sum (ab_cv L xs h) i0 l)
  | [], y, q => by cases q; exact ae_num_dn 0
  | t :: r, y, q => by
    obtain ⟨x, h1, q⟩ := Option.bind_eq_some_iff.mp q
    obtain ⟨y', h2, q⟩ := Option.bind_eq_some_iff.mp q
    cases q
    exact ae_add_dn (ae_scl_dn (ab_ov_ok hK hO (ab_at_dn hi) h1) t.1) (ab_os_ok hK hO hi h2)
theorem ab_gf_ok (hK : ae_okK ρ k) (hO : ∀ m ∈ O, ae_eo k.1 ρ L xs h m) {i : ae_X} {i0 : Nat} (hi : ae_dn k.1 ρ i (i0 : Int)) {g : ab_Gd} (q : ab_gf k O i g = true) : ¬ ab_gd (ab_cv L xs h) i0 g ≤ 0 := by
  unfold ab_gf at q
  split at q
  · rename_i y hy
    have d := ab_os_ok hK hO hi hy
    have z := ae_z_ok hK q
    rw [(ae_neg_dn (ae_add_dn (ae_scl_dn hi g.2.1) d) (1 - g.1)).2] at z
    unfold ab_gd
    omega
  · cases q
theorem ab_ix_ok {p : Nat} {e i : ae_X} {j : Nat} {t : ab_Ti} (hK : ae_okK ρ k) (hd : ae_dn k.1 ρ e (j : Int)) (q : ab_ix k p e t = some i) : t.1 = p ∧ ∃ i0 : Nat, j = t.2.1 + t.st * i0 ∧ i0 < t.2.2.1 ∧ ae_dn k.1 ρ i (i0 : Int) := by
  obtain ⟨hb, q⟩ := ae_bif q
  obtain ⟨i', h1, q⟩ := Option.bind_eq_some_iff.mp q
  obtain ⟨h2, q⟩ := ae_bif q
  cases q
  refine ⟨Nat.eq_of_beq_eq_true hb, ?_⟩
  obtain ⟨y, d, e1⟩ := ab_dv_dn (ae_pls_dn hd (-(t.2.1 : Int))) h1
  have r : 0 ≤ y ∧ y + 1 ≤ (t.2.2.1 : Int) := by
    cases hk : ae_kc i with
    | true =>
      rw [hk] at h2
      have h2 : (ae_nn i.1 && ae_le (i.1 + 1) (t.2.2.1 : Int)) = true := h2
      rw [Bool.and_eq_true] at h2
      have v : ae_ev ρ i = i.1 := by
        unfold ae_kc at hk
        unfold ae_ev
        revert hk
        cases i.2 with
        | nil => intro _; exact Int.add_zero _
        | cons _ _ => intro h; cases h
      rw [← d.2, v]
      exact ⟨ae_nn_iff.mp h2.1, ae_le_iff.mp h2.2⟩
    | false =>
      rw [hk] at h2
      have h2 : ae_rg k i 0 ((t.2.2.1 : Int) - 1) = true := h2
      have g := ae_rg_ok hK h2
      rw [d.2] at g
      omega
  refine ⟨y.toNat, ?_, by omega, ?_⟩
  · have : ((t.st * y.toNat : Nat) : Int) = (t.st : Int) * y := by rw [Int.natCast_mul, Int.toNat_of_nonneg r.1]
    omega
  · rw [Int.toNat_of_nonneg r.1]; exact d
theorem ab_ti_ok (hK : ae_okK ρ k) (hO : ∀ m ∈ O, ae_eo k.1 ρ L xs h m) {T : List ab_Ti} (hT : ab_RI T (ab_cv L xs h)) {p j : Nat} {e x : ae_X} (hd : ae_dn k.1 ρ e (j : Int)) {t : ab_Ti} (ht : t ∈ T) (q : ab_ti k O p e t = some x) : ae_dn k.1 ρ x (ab_cv L xs h p j) := by
  obtain ⟨i, hi, q⟩ := Option.bind_eq_some_iff.mp q
  obtain ⟨b3, q⟩ := ae_bif q
  obtain ⟨y, h1, q⟩ := Option.bind_eq_some_iff.mp q
  cases q
  obtain ⟨b1, i0, e1, e2, di⟩ := ab_ix_ok hK hd hi
  rcases hT t ht i0 e2 with ⟨g, hg, g1⟩ | g1
  · exact absurd g1 (ab_gf_ok hK hO di (List.all_eq_true.mp b3 g hg))
  · have dy := ae_pls_dn (ab_os_ok hK hO di h1) t.2.2.2.1.1
    subst b1
    rw [e1, g1, Int.add_comm]
    exact dy
theorem ab_fs {α β : Type} {f : α → Option β} : ∀ {l : List α} {b : β}, l.findSome? f = some b → ∃ a ∈ l, f a = some b
  | [], b, q => by cases q
  | a :: r, b, q => by
    rw [List.findSome?_cons] at q
    split at q
    · rename_i c hc
      cases q
      exact ⟨a, List.mem_cons_self, hc⟩
    · obtain ⟨a', h1, h2⟩ := ab_fs q
      exact ⟨a', List.mem_cons_of_mem _ h1, h2⟩
theorem ab_tv_ok (hK : ae_okK ρ k) (hO : ∀ m ∈ O, ae_eo k.1 ρ L xs h m) {T : List ab_Ti} (hT : ab_RI T (ab_cv L xs h)) {p j : Nat} {e x : ae_X} (hd : ae_dn k.1 ρ e (j : Int)) (q : ab_tv k O T p e = some x) : ae_dn k.1 ρ x (ab_cv L xs h p j) := by
  obtain ⟨t, h1, h2⟩ := ab_fs (show T.findSome? (ab_ti k O p e) = some x from q)
  exact ab_ti_ok hK hO hT hd h1 h2
end ABA
/-! a cell is looked at: what is known of it comes into the entries, and into the old ones if it is as it was -/
noncomputable def ab_l0 (T : List ab_Ti) (w : ae_Mo) (k : ae_K) (M O : List ae_M) (p : Nat) (e0 : ae_X) : Option (ae_K × List ae_M × List ae_M) :=
  match ae_fd M p (ae_nr k e0) with
  | some _ => some (k, M, O)
  | none => bif ab_ou k w p (ae_nr k e0) then
      (match ab_fa k O p (ae_nr k e0) with
      | some m => some (k, (p, ae_nr k e0, m.2.2.1, false) :: M, O)
      | none => (match ab_tv k O T p (ae_nr k e0) with
        | some x => (ae_hull k p (ae_nr k e0)).bind fun i => bif Nat.blt i.1 2 && ae_nd k M p (ae_nr k e0) then some (k, (p, ae_nr k e0, (i.1, 0, x), false) :: M, (p, ae_nr k e0, (i.1, 0, x), false) :: O) else none
        | none => (ae_ld false k M p e0).bind fun q => some (q.1, q.2.1, (p, ae_nr k e0, q.2.2, false) :: O)))
    else (ae_ld false k M p e0).bind fun q => some (q.1, q.2.1, O)
section ABB
variable {L : Nat} {xs : Nat → Int32} {ρ : Nat → Int} {k : ae_K} {M O : List ae_M} {h0 h : List am_E} {w : ae_Mo} {T : List ab_Ti}
theorem ab_ou_ok (hK : ae_okK ρ k) {p j : Nat} {e : ae_X} (hd : ae_dn k.1 ρ e (j : Int)) (q : ab_ou k w p e = true) : ae_inm w p j = false :=
  ae_ou_ok (m := (p, e, (0, 0, ae_num 0), false)) hK hd.2 q
theorem ab_hp1 {n : Nat} {m : ae_M} (H : ae_hp false n ρ L xs M h) (hm : ae_eo n ρ L xs h m) : ae_hp false n ρ L xs (m :: M) h :=
  ae_hp_add (A := [m]) H (fun q hq => by rw [List.mem_singleton.mp hq]; exact hm)
theorem ab_l0_ok (hr : ae_rok = true) (hK : ae_okK ρ k) (hH : ae_hp false k.1 ρ L xs M h) (hT : ab_RI T (ab_cv L xs h0)) (hF : ae_fr w L xs h0 h) (hO : ∀ m ∈ O, ae_eo k.1 ρ L xs h0 m) {p j : Nat} {e0 : ae_X} (hd : ae_dn k.1 ρ e0 (j : Int)) (hp : 0 < p) (hp2 : p ≤ ae_np) (hj : j < (ae_sh p).2.2) {z : ae_K × List ae_M × List ae_M} (q : ab_l0 T w k M O p e0 = some z) :
    ∃ ρ', ae_up2 ρ k ρ' z.1 ∧ ae_hp false z.1.1 ρ' L xs z.2.1 h ∧ ∀ m ∈ z.2.2, ae_eo z.1.1 ρ' L xs h0 m := by
  have he := ae_nr_dn hK hd
  obtain ⟨v, hv⟩ := ae_cell_ex (L := L) (xs := xs) hH.1 hp hp2 hj
  have me : ae_up2 ρ k ρ k := ⟨Nat.le_refl _, ae_ag_rf _ _, hK⟩
  unfold ab_l0 at q
  split at q
  · cases q
    exact ⟨ρ, me, hH, hO⟩
  · cases hb : ab_ou k w p (ae_nr k e0) with
    | false =>
      rw [hb] at q
      obtain ⟨⟨k1, M1, a1⟩, h1, q⟩ := Option.bind_eq_some_iff.mp q
      cases q
      obtain ⟨ρ', u, H, -⟩ := ae_ld_ok hr hK hH hd hv (fun _ => ⟨hp2, hj⟩) h1
      exact ⟨ρ', u, H, fun m hm => ae_eo_ext u.1 u.2.1 (hO m hm)⟩
    | true =>
      rw [hb] at q
      have hin := ab_ou_ok hK he hb
      have hv0 : ae_cell L xs h0 p j = some v := (hF p j hin).symm.trans hv
      change (match ab_fa k O p (ae_nr k e0) with
      | some m => some (k, (p, ae_nr k e0, m.2.2.1, false) :: M, O)
      | none => (match ab_tv k O T p (ae_nr k e0) with
        | some x => (ae_hull k p (ae_nr k e0)).bind fun i => bif Nat.blt i.1 2 && ae_nd k M p (ae_nr k e0) then some (k, (p, ae_nr k e0, (i.1, 0, x), false) :: M, (p, ae_nr k e0, (i.1, 0, x), false) :: O) else none
        | none => (ae_ld false k M p e0).bind fun q => some (q.1, q.2.1, (p, ae_nr k e0, q.2.2, false) :: O))) = some z at q
      split at q
      · rename_i m hm
        cases q
        obtain ⟨v', c1, o1⟩ := ab_fa_ok hK hO he hm
        rw [hv0] at c1
        cases c1
        exact ⟨ρ, me, ab_hp1 hH ⟨j, v, he, hv, o1⟩, hO⟩
      · split at q
        · rename_i x hx
          obtain ⟨i, h1, q⟩ := Option.bind_eq_some_iff.mp q
          obtain ⟨hb2, q⟩ := ae_bif q
          cases q
          rw [Bool.and_eq_true] at hb2
          have dx := ab_tv_ok hK hO hT he hx
          have i1 := ae_hull_ok hK hp he.2 h1
          have io : ae_io (ae_iv p j) v := by
            rcases hH.2.2.1 p j v hp hv with g | g | g
            · exact g
            · exact absurd g (ae_nd_ok hK he.2 hb2.2)
            · exact absurd g.1 (by decide)
          have ok : ae_ok k.1 ρ (i.1, 0, x) v := by
            unfold ab_cv at dx
            rw [hv0] at dx
            unfold ae_io at io
            rw [← i1.1] at io
            obtain ⟨i', b, c⟩ := i
            match i', hb2.1, io with
            | 0, _, io => obtain ⟨y, rfl, -⟩ := io; exact ⟨y, rfl, dx⟩
            | 1, _, io => obtain ⟨y, rfl, -⟩ := io; exact ⟨y, rfl, dx⟩
            | t + 2, hb2, _ => exact absurd (Nat.blt_eq.mp hb2) (by show ¬ t + 2 < 2; omega)
          refine ⟨ρ, me, ab_hp1 hH ⟨j, v, he, hv, ok⟩, fun m hm => ?_⟩
          rcases List.mem_cons.mp hm with rfl | hm
          · exact ⟨j, v, he, hv0, ok⟩
          · exact hO m hm
        · obtain ⟨⟨k1, M1, a1⟩, h1, q⟩ := Option.bind_eq_some_iff.mp q
          cases q
          obtain ⟨ρ', u, H, o1⟩ := ae_ld_ok hr hK hH hd hv (fun _ => ⟨hp2, hj⟩) h1
          refine ⟨ρ', u, H, fun m hm => ?_⟩
          rcases List.mem_cons.mp hm with rfl | hm
          · exact ⟨j, v, ae_dn_ext u.1 u.2.1 he, hv0, o1⟩
          · exact ae_eo_ext u.1 u.2.1 (hO m hm)
end ABB
/-! the cells of a tie are looked at first -/
abbrev ab_Lz : Type := ae_K × List ae_M × List ae_M
noncomputable def ab_lo (w : ae_Mo) (z : ab_Lz) (p : Nat) (e : ae_X) : ab_Lz :=
  bif Nat.blt 0 p && Nat.ble p ae_np && ae_rg z.1 e 0 (((ae_sh p).2.2 : Int) - 1) then (match ab_l0 [] w z.1 z.2.1 z.2.2 p e with
    | some y => y
    | none => z) else z
noncomputable def ab_lc (w : ae_Mo) (i : ae_X) : List ab_Tt → ab_Lz → ab_Lz
  | [], z => z
  | t :: r, z => ab_lc w i r (ab_lo w z t.2.1 (ab_at i t.2.2.1 t.2.2.2))
noncomputable def ab_lg (w : ae_Mo) (i : ae_X) : List ab_Gd → ab_Lz → ab_Lz
  | [], z => z
  | g :: r, z => ab_lg w i r (ab_lc w i g.2.2 z)
noncomputable def ab_lt (w : ae_Mo) (p : Nat) (e : ae_X) : List ab_Ti → ab_Lz → Option ab_Lz
  | [], z => ab_l0 [] w z.1 z.2.1 z.2.2 p e
  | t :: r, z => match ab_ix z.1 p e t with
    | some i => (match ab_lc w i t.2.2.2.1.2 (ab_lg w i t.2.2.2.2.1 z) with
      | (k1, M1, O1) => (match ab_ti k1 O1 p e t with
        | some _ => ab_l0 [t] w k1 M1 O1 p e
        | none => ab_lt w p e r (k1, M1, O1)))
    | none => ab_lt w p e r z
noncomputable def ab_ld (T : List ab_Ti) (w : ae_Mo) (k : ae_K) (M O : List ae_M) (p : Nat) (e0 : ae_X) : Option ab_Lz :=
  match ae_fd M p (ae_nr k e0) with
  | some _ => some (k, M, O)
  | none => (match ab_fa k M p (ae_nr k e0) with
    | some m => some (k, (p, ae_nr k e0, m.2.2.1, false) :: M, O)
    | none => bif ab_ou k w p (ae_nr k e0) then (match ab_fa k O p (ae_nr k e0) with
        | some m => some (k, (p, ae_nr k e0, m.2.2.1, false) :: M, O)
        | none => ab_lt w p (ae_nr k e0) T (k, M, O))
      else ab_l0 [] w k M O p e0)
section ABL
variable {L : Nat} {xs : Nat → Int32} {h0 h : List am_E} {w : ae_Mo} {T : List ab_Ti}
noncomputable def ab_lk (L : Nat) (xs : Nat → Int32) (h0 h : List am_E) (ρ : Nat → Int) (z : ab_Lz) : Prop := ae_okK ρ z.1 ∧ ae_hp false z.1.1 ρ L xs z.2.1 h ∧ ∀ m ∈ z.2.2, ae_eo z.1.1 ρ L xs h0 m
theorem ab_RI_nil {f : Nat → Nat → Int} : ab_RI [] f := fun _ h => absurd h List.not_mem_nil
theorem ab_up_rf {ρ : Nat → Int} {k : ae_K} (h : ae_okK ρ k) : ae_up2 ρ k ρ k := ⟨Nat.le_refl _, ae_ag_rf _ _, h⟩
theorem ab_lo_ok (hr : ae_rok = true) (hF : ae_fr w L xs h0 h) {ρ : Nat → Int} {z : ab_Lz} (S : ab_lk L xs h0 h ρ z) {p : Nat} {e : ae_X} (we : ae_wt z.1.1 e.2) : ∃ ρ', ae_up2 ρ z.1 ρ' (ab_lo w z p e).1 ∧ ab_lk L xs h0 h ρ' (ab_lo w z p e) := by
  unfold ab_lo
  cases hb : Nat.blt 0 p && Nat.ble p ae_np && ae_rg z.1 e 0 (((ae_sh p).2.2 : Int) - 1) with
  | false => exact ⟨ρ, ab_up_rf S.1, S⟩
  | true =>
    simp only [Bool.and_eq_true] at hb
    obtain ⟨⟨b1, b2⟩, b3⟩ := hb
    have g := ae_rg_ok S.1 b3
    show ∃ ρ', ae_up2 ρ z.1 ρ' (match ab_l0 [] w z.1 z.2.1 z.2.2 p e with
      | some y => y
      | none => z).1 ∧ ab_lk L xs h0 h ρ' (match ab_l0 [] w z.1 z.2.1 z.2.2 p e with
      | some y => y
      | none => z)
    cases hl : ab_l0 [] w z.1 z.2.1 z.2.2 p e with
    | none => exact ⟨ρ, ab_up_rf S.1, S⟩
    | some y =>
      obtain ⟨ρ', u, H, O⟩ := ab_l0_ok hr S.1 S.2.1 ab_RI_nil hF S.2.2 (p := p) (j := (ae_ev ρ e).toNat) (e0 := e) ⟨we, by omega⟩ (Nat.blt_eq.mp b1) (Nat.le_of_ble_eq_true b2) (by omega) hl
      exact ⟨ρ', u, u.2.2, H, O⟩
theorem ab_at_wt {n : Nat} {i : ae_X} {b s : Nat} (h : ae_wt n i.2) : ae_wt n (ab_at i b s).2 := by
  match s with
  | 0 => trivial
  | 1 => exact h
  | s + 2 => exact (ae_scl_dn (ρ := fun _ => 0) ⟨h, rfl⟩ ((s + 2 : Nat) : Int)).1
theorem ab_lc_ok (hr : ae_rok = true) (hF : ae_fr w L xs h0 h) : ∀ {l : List ab_Tt} {i : ae_X} {ρ : Nat → Int} {z : ab_Lz}, ab_lk L xs h0 h ρ z → ae_wt z.1.1 i.2 → ∃ ρ', ae_up2 ρ z.1 ρ' (ab_lc w i l z).1 ∧ ab_lk L xs h0 h ρ' (ab_lc w i l z)
  | [], i, ρ, z, S, _ => ⟨ρ, ab_up_rf S.1, S⟩
  | t :: r, i, ρ, z, S, wi => by
    obtain ⟨ρ1, u1, S1⟩ := ab_lo_ok hr hF S (p := t.2.1) (e := ab_at i t.2.2.1 t.2.2.2) (ab_at_wt wi)
    obtain ⟨ρ2, u2, S2⟩ := ab_lc_ok hr hF (l := r) (i := i) S1 (ae_wt_le u1.1 wi)
    exact ⟨ρ2, u1.tr u2, S2⟩
theorem ab_lg_ok (hr : ae_rok = true) (hF : ae_fr w L xs h0 h) : ∀ {l : List ab_Gd} {i : ae_X} {ρ : Nat → Int} {z : ab_Lz}, ab_lk L xs h0 h ρ z → ae_wt z.1.1 i.2 → ∃ ρ', ae_up2 ρ z.1 ρ' (ab_lg w i l z).1 ∧ ab_lk L xs h0 h ρ' (ab_lg w i l z)
  | [], i, ρ, z, S, _ => ⟨ρ, ab_up_rf S.1, S⟩
  | g :: r, i, ρ, z, S, wi => by
    obtain ⟨ρ1, u1, S1⟩ := ab_lc_ok hr hF (l := g.2.2) (i := i) S wi
    obtain ⟨ρ2, u2, S2⟩ := ab_lg_ok hr hF (l := r) (i := i) S1 (ae_wt_le u1.1 wi)
    exact ⟨ρ2, u1.tr u2, S2⟩
theorem ab_lt_ok (hr : ae_rok = true) (hF : ae_fr w L xs h0 h) {p j : Nat} {e : ae_X} (hp : 0 < p) (hp2 : p ≤ ae_np) (hj : j < (ae_sh p).2.2) : ∀ {T : List ab_Ti}, ab_RI T (ab_cv L xs h0) → ∀ {ρ : Nat → Int} {z y : ab_Lz}, ab_lk L xs h0 h ρ z → ae_dn z.1.1 ρ e (j : Int) → ab_lt w p e T z = some y → ∃ ρ', ae_up2 ρ z.1 ρ' y.1 ∧ ab_lk L xs h0 h ρ' y
  | [], _, ρ, z, y, S, hd, q => by
    obtain ⟨ρ', u, H, O⟩ := ab_l0_ok hr S.1 S.2.1 ab_RI_nil hF S.2.2 hd hp hp2 hj q
    exact ⟨ρ', u, u.2.2, H, O⟩
  | t :: r, hT, ρ, z, y, S, hd, q => by
    have hT2 : ab_RI r (ab_cv L xs h0) := fun u hu => hT u (List.mem_cons_of_mem _ hu)
    unfold ab_lt at q
    cases hb : ab_ix z.1 p e t with
    | none => rw [hb] at q; exact ab_lt_ok hr hF hp hp2 hj hT2 S hd q
    | some i =>
      rw [hb] at q
      change (match ab_lc w i t.2.2.2.1.2 (ab_lg w i t.2.2.2.2.1 z) with
        | (k1, M1, O1) => (match ab_ti k1 O1 p e t with
          | some _ => ab_l0 [t] w k1 M1 O1 p e
          | none => ab_lt w p e r (k1, M1, O1))) = some y at q
      obtain ⟨-, i0, -, -, di⟩ := ab_ix_ok S.1 hd hb
      obtain ⟨ρ1, u1, S1⟩ := ab_lg_ok hr hF (l := t.2.2.2.2.1) (i := i) S di.1
      obtain ⟨ρ2, u2, S2⟩ := ab_lc_ok hr hF (l := t.2.2.2.1.2) (i := i) S1 (ae_wt_le u1.1 di.1)
      have u := u1.tr u2
      generalize ab_lc w i t.2.2.2.1.2 (ab_lg w i t.2.2.2.2.1 z) = z2 at q u S2
      obtain ⟨k1, M1, O1⟩ := z2
      have hd2 : ae_dn k1.1 ρ2 e (j : Int) := ae_dn_ext u.1 u.2.1 hd
      change (match ab_ti k1 O1 p e t with
        | some _ => ab_l0 [t] w k1 M1 O1 p e
        | none => ab_lt w p e r (k1, M1, O1)) = some y at q
      split at q
      · obtain ⟨ρ', u', H, O⟩ := ab_l0_ok hr S2.1 S2.2.1 (T := [t]) (fun v hv => by rw [List.mem_singleton.mp hv]; exact hT t List.mem_cons_self) hF S2.2.2 hd2 hp hp2 hj q
        exact ⟨ρ', u.tr u', u'.2.2, H, O⟩
      · obtain ⟨ρ', u', S3⟩ := ab_lt_ok hr hF hp hp2 hj hT2 S2 hd2 q
        exact ⟨ρ', u.tr u', S3⟩
theorem ab_ld_ok (hr : ae_rok = true) {ρ : Nat → Int} {k : ae_K} {M O : List ae_M} (hK : ae_okK ρ k) (hH : ae_hp false k.1 ρ L xs M h) (hT : ab_RI T (ab_cv L xs h0)) (hF : ae_fr w L xs h0 h) (hO : ∀ m ∈ O, ae_eo k.1 ρ L xs h0 m) {p j : Nat} {e0 : ae_X} (hd : ae_dn k.1 ρ e0 (j : Int)) (hp : 0 < p) (hp2 : p ≤ ae_np) (hj : j < (ae_sh p).2.2) {z : ab_Lz} (q : ab_ld T w k M O p e0 = some z) :
    ∃ ρ', ae_up2 ρ k ρ' z.1 ∧ ae_hp false z.1.1 ρ' L xs z.2.1 h ∧ ∀ m ∈ z.2.2, ae_eo z.1.1 ρ' L xs h0 m := by
  have he := ae_nr_dn hK hd
  obtain ⟨v, hv⟩ := ae_cell_ex (L := L) (xs := xs) hH.1 hp hp2 hj
  unfold ab_ld at q
  split at q
  · cases q
    exact ⟨ρ, ab_up_rf hK, hH, hO⟩
  · split at q
    · rename_i m hm
      cases q
      obtain ⟨v', c1, o1⟩ := ab_fa_ok hK hH.2.1 he hm
      exact ⟨ρ, ab_up_rf hK, ab_hp1 hH ⟨j, v', he, c1, o1⟩, hO⟩
    · cases hb : ab_ou k w p (ae_nr k e0) with
      | false =>
        rw [hb] at q
        exact ab_l0_ok hr hK hH ab_RI_nil hF hO hd hp hp2 hj q
      | true =>
        rw [hb] at q
        have hin := ab_ou_ok hK he hb
        have hv0 : ae_cell L xs h0 p j = some v := (hF p j hin).symm.trans hv
        change (match ab_fa k O p (ae_nr k e0) with
        | some m => some (k, (p, ae_nr k e0, m.2.2.1, false) :: M, O)
        | none => ab_lt w p (ae_nr k e0) T (k, M, O)) = some z at q
        split at q
        · rename_i m hm
          cases q
          obtain ⟨v', c1, o1⟩ := ab_fa_ok hK hO he hm
          rw [hv0] at c1
          cases c1
          exact ⟨ρ, ab_up_rf hK, ab_hp1 hH ⟨j, v, he, hv, o1⟩, hO⟩
        · obtain ⟨ρ', u, S⟩ := ab_lt_ok hr hF hp hp2 hj hT (z := (k, M, O)) ⟨hK, hH, hO⟩ he q
          exact ⟨ρ', u, S.2.1, S.2.2⟩
end ABL
/-! whether ties hold now -/
noncomputable def ab_cur (k : ae_K) (M O : List ae_M) (w : ae_Mo) (p j : Nat) : Option ae_X := match ab_ov k M p (ae_num (j : Int)) with
  | some x => some x
  | none => bif ae_inm w p j then none else ab_ov k O p (ae_num (j : Int))
noncomputable def ab_cs (k : ae_K) (M O : List ae_M) (w : ae_Mo) (i : Nat) : List ab_Tt → Option ae_X
  | [] => some (ae_num 0)
  | t :: r => (ab_cur k M O w t.2.1 (t.2.2.1 + t.2.2.2 * i)).bind fun x => (ab_cs k M O w i r).bind fun y => some (ae_add (ae_scl t.1 x) y)
noncomputable def ab_utl (w : ae_Mo) (i : Nat) (l : List ab_Tt) : Bool := l.all fun t => !(ae_inm w t.2.1 (t.2.2.1 + t.2.2.2 * i))
/-- a sum's new value less its old one -/
noncomputable def ab_df (k : ae_K) (M O : List ae_M) (w : ae_Mo) (i : Nat) : List ab_Tt → Option ae_X
  | [] => some (ae_num 0)
  | t :: r => (ab_df k M O w i r).bind fun y => bif ae_inm w t.2.1 (t.2.2.1 + t.2.2.2 * i) then (ab_ov k M t.2.1 (ae_num ((t.2.2.1 + t.2.2.2 * i : Nat) : Int))).bind fun x => (ab_ov k O t.2.1 (ae_num ((t.2.2.1 + t.2.2.2 * i : Nat) : Int))).bind fun o => some (ae_add (ae_scl t.1 (ae_sub x o)) y) else some y
noncomputable def ab_gm (k : ae_K) (M O : List ae_M) (w : ae_Mo) (i : Nat) (g : ab_Gd) : Bool := match ab_df k M O w i g.2.2 with
  | some e => ae_z k e
  | none => false
noncomputable def ab_gn (k : ae_K) (M O : List ae_M) (w : ae_Mo) (i : Nat) (g : ab_Gd) : Bool := match ab_cs k M O w i g.2.2 with
  | some y => ae_z k (ae_pls y (g.1 + g.2.1 * (i : Int)))
  | none => false
noncomputable def ab_en (k : ae_K) (M O : List ae_M) (w : ae_Mo) (t : ab_Ti) (i : Nat) : Bool := match ab_cur k M O w t.1 (t.2.1 + t.st * i) with
  | some x => (match ab_cs k M O w i t.2.2.2.1.2 with
    | some y => ae_rg k (ae_sub x y) t.2.2.2.1.1 t.2.2.2.1.1
    | none => false)
  | none => false
noncomputable def ab_r1 (k : ae_K) (M O : List ae_M) (w : ae_Mo) (s : Bool) (t : ab_Ti) (i : Nat) : Bool :=
  (s && !(ae_inm w t.1 (t.2.1 + t.st * i)) && ab_utl w i t.2.2.2.1.2 && t.2.2.2.2.1.all fun g => ab_utl w i g.2.2 || ab_gm k M O w i g || ab_gf k O (ae_num (i : Int)) g) || t.2.2.2.2.1.any (ab_gn k M O w i) || ab_en k M O w t i
noncomputable def ab_ql {α : Type} (e : α → α → Bool) : List α → List α → Bool
  | [], [] => true
  | a :: r, b :: t => e a b && ab_ql e r t
  | _, _ => false
noncomputable def ab_q3 (a b : ab_Tt) : Bool := ae_ie a.1 b.1 && Nat.beq a.2.1 b.2.1 && Nat.beq a.2.2.1 b.2.2.1 && Nat.beq a.2.2.2 b.2.2.2
noncomputable def ab_qg (a b : ab_Gd) : Bool := ae_ie a.1 b.1 && ae_ie a.2.1 b.2.1 && ab_ql ab_q3 a.2.2 b.2.2
noncomputable def ab_qt (a b : ab_Ti) : Bool := Nat.beq a.1 b.1 && Nat.beq a.2.1 b.2.1 && Nat.beq a.2.2.1 b.2.2.1 && ae_ie a.2.2.2.1.1 b.2.2.2.1.1 && ab_ql ab_q3 a.2.2.2.1.2 b.2.2.2.1.2 && ab_ql ab_qg a.2.2.2.2.1 b.2.2.2.2.1 && Nat.beq a.2.2.2.2.2 b.2.2.2.2.2
theorem ab_ql_ok {α : Type} {e : α → α → Bool} (h : ∀ a b, e a b = true → a = b) : ∀ {a b : List α}, ab_ql e a b = true → a = b
  | [], [], _ => rfl
  | a :: r, b :: t, q => by
    unfold ab_ql at q
    rw [Bool.and_eq_true] at q
    rw [h a b q.1, ab_ql_ok h q.2]
  | [], _ :: _, q => by cases q
  | _ :: _, [], q => by cases q
theorem ab_q3_ok (a b : ab_Tt) (q : ab_q3 a b = true) : a = b := by
  unfold ab_q3 at q
  simp only [Bool.and_eq_true] at q
  obtain ⟨a1, a2, a3, a4⟩ := a
  obtain ⟨b1, b2, b3, b4⟩ := b
  have e1 : a1 = b1 := ae_ie_ok q.1.1.1
  have e2 : a2 = b2 := Nat.eq_of_beq_eq_true q.1.1.2
  have e3 : a3 = b3 := Nat.eq_of_beq_eq_true q.1.2
  have e4 : a4 = b4 := Nat.eq_of_beq_eq_true q.2
  rw [e1, e2, e3, e4]
theorem ab_qg_ok (a b : ab_Gd) (q : ab_qg a b = true) : a = b := by
  unfold ab_qg at q
  simp only [Bool.and_eq_true] at q
  obtain ⟨a1, a2, a3⟩ := a
  obtain ⟨b1, b2, b3⟩ := b
  have e1 : a1 = b1 := ae_ie_ok q.1.1
  have e2 : a2 = b2 := ae_ie_ok q.1.2
  have e3 : a3 = b3 := ab_ql_ok ab_q3_ok q.2
  rw [e1, e2, e3]
theorem ab_qt_ok (a b : ab_Ti) (q : ab_qt a b = true) : a = b := by
  unfold ab_qt at q
  simp only [Bool.and_eq_true] at q
  obtain ⟨a1, a2, a3, ⟨a4, a5⟩, a6, a7⟩ := a
  obtain ⟨b1, b2, b3, ⟨b4, b5⟩, b6, b7⟩ := b
  obtain ⟨⟨⟨⟨⟨⟨q1, q2⟩, q3⟩, q4⟩, q5⟩, q6⟩, q7⟩ := q
  have e1 : a1 = b1 := Nat.eq_of_beq_eq_true q1
  have e2 : a2 = b2 := Nat.eq_of_beq_eq_true q2
  have e3 : a3 = b3 := Nat.eq_of_beq_eq_true q3
  have e4 : a4 = b4 := ae_ie_ok q4
  have e5 : a5 = b5 := ab_ql_ok ab_q3_ok q5
  have e6 : a6 = b6 := ab_ql_ok ab_qg_ok q6
  have e7 : a7 = b7 := Nat.eq_of_beq_eq_true q7
  rw [e1, e2, e3, e4, e5, e6, e7]
noncomputable def ab_ric (k : ae_K) (M O : List ae_M) (w : ae_Mo) (T T' : List ab_Ti) : Bool := bif ab_ql ab_qt T T' then T'.all fun t => (List.range t.2.2.1).all (ab_r1 k M O w true t)
  else T'.all fun t => (List.range t.2.2.1).all (ab_r1 k M O w (T.any fun u => ab_qt u t) t)
section ABC
variable {L : Nat} {xs : Nat → Int32} {ρ : Nat → Int} {k : ae_K} {M O : List ae_M} {h0 h : List am_E} {w : ae_Mo} {T T' : List ab_Ti}
theorem ab_cv_fr (hF : ae_fr w L xs h0 h) {p j : Nat} (q : ae_inm w p j = false) : ab_cv L xs h p j = ab_cv L xs h0 p j := by
  unfold ab_cv
  rw [hF p j q]
theorem ab_cur_ok (hK : ae_okK ρ k) (hM : ∀ m ∈ M, ae_eo k.1 ρ L xs h m) (hF : ae_fr w L xs h0 h) (hO : ∀ m ∈ O, ae_eo k.1 ρ L xs h0 m) {p j : Nat} {x : ae_X} (q : ab_cur k M O w p j = some x) : ae_dn k.1 ρ x (ab_cv L xs h p j) := by
  unfold ab_cur at q
  split at q
  · rename_i y hy
    cases q
    exact ab_ov_ok hK hM (ae_num_dn _) hy
  · cases hb : ae_inm w p j with
    | true => rw [hb] at q; cases q
    | false =>
      rw [hb] at q
      rw [ab_cv_fr hF hb]
      exact ab_ov_ok hK hO (ae_num_dn _) q
theorem ab_cs_ok (hK : ae_okK ρ k) (hM : ∀ m ∈ M, ae_eo k.1 ρ L xs h m) (hF : ae_fr w L xs h0 h) (hO : ∀ m ∈ O, ae_eo k.1 ρ L xs h0 m) {i : Nat} : ∀ {l : List ab_Tt} {y : ae_X}, ab_cs k M O w i l = some y → ae_dn k.1 ρ y (ab_sum (ab_cv L xs h) i l)
  | [], y, q => by cases q; exact ae_num_dn 0
  | t :: r, y, q => by
    obtain ⟨x, h1, q⟩ := Option.bind_eq_some_iff.mp q
    obtain ⟨y', h2, q⟩ := Option.bind_eq_some_iff.mp q
    cases q
    exact ae_add_dn (ae_scl_dn (ab_cur_ok hK hM hF hO h1) t.1) (ab_cs_ok hK hM hF hO h2)
theorem ab_utl_ok (hF : ae_fr w L xs h0 h) {i : Nat} {l : List ab_Tt} (q : ab_utl w i l = true) : ab_sum (ab_cv L xs h) i l = ab_sum (ab_cv L xs h0) i l := by
  refine ab_sum_eq (fun t ht => ab_cv_fr hF ?_)
  have := List.all_eq_true.mp q t ht
  simpa using this
theorem ab_df_ok (hK : ae_okK ρ k) (hM : ∀ m ∈ M, ae_eo k.1 ρ L xs h m) (hF : ae_fr w L xs h0 h) (hO : ∀ m ∈ O, ae_eo k.1 ρ L xs h0 m) {i : Nat} : ∀ {l : List ab_Tt} {y : ae_X}, ab_df k M O w i l = some y → ae_dn k.1 ρ y (ab_sum (ab_cv L xs h) i l - ab_sum (ab_cv L xs h0) i l)
  | [], y, q => by cases q; exact ae_num_dn 0
  | t :: r, y, q => by
    obtain ⟨y', h1, q⟩ := Option.bind_eq_some_iff.mp q
    have ih := ab_df_ok hK hM hF hO h1
    cases hb : ae_inm w t.2.1 (t.2.2.1 + t.2.2.2 * i) with
    | true =>
      rw [hb] at q
      obtain ⟨x, h2, q⟩ := Option.bind_eq_some_iff.mp q
      obtain ⟨o, h3, q⟩ := Option.bind_eq_some_iff.mp q
      cases q
      have d := ae_add_dn (ae_scl_dn (ae_sub_dn (ab_ov_ok hK hM (ae_num_dn _) h2) (ab_ov_ok hK hO (ae_num_dn _) h3)) t.1) ih
      refine ⟨d.1, d.2.trans ?_⟩
      show _ = (t.1 * ab_cv L xs h t.2.1 (t.2.2.1 + t.2.2.2 * i) + ab_sum (ab_cv L xs h) i r) - (t.1 * ab_cv L xs h0 t.2.1 (t.2.2.1 + t.2.2.2 * i) + ab_sum (ab_cv L xs h0) i r)
      rw [Int.mul_sub]
      omega
    | false =>
      rw [hb] at q
      cases q
      have e : ab_cv L xs h t.2.1 (t.2.2.1 + t.2.2.2 * i) = ab_cv L xs h0 t.2.1 (t.2.2.1 + t.2.2.2 * i) := ab_cv_fr hF hb
      refine ⟨ih.1, ih.2.trans ?_⟩
      show _ = (t.1 * ab_cv L xs h t.2.1 (t.2.2.1 + t.2.2.2 * i) + ab_sum (ab_cv L xs h) i r) - (t.1 * ab_cv L xs h0 t.2.1 (t.2.2.1 + t.2.2.2 * i) + ab_sum (ab_cv L xs h0) i r)
      rw [e]
      omega
theorem ab_r1_ok (hK : ae_okK ρ k) (hM : ∀ m ∈ M, ae_eo k.1 ρ L xs h m) (hF : ae_fr w L xs h0 h) (hO : ∀ m ∈ O, ae_eo k.1 ρ L xs h0 m) {s : Bool} {t : ab_Ti} {i : Nat} (hs : s = true → ab_hold (ab_cv L xs h0) t i) (q : ab_r1 k M O w s t i = true) : ab_hold (ab_cv L xs h) t i := by
  unfold ab_r1 at q
  rcases Bool.or_eq_true_iff.mp q with q | q
  · rcases Bool.or_eq_true_iff.mp q with q | q
    · simp only [Bool.and_eq_true] at q
      obtain ⟨⟨⟨q1, q2⟩, q3⟩, q4⟩ := q
      rcases hs q1 with ⟨g, hg, g1⟩ | g1
      · refine Or.inl ⟨g, hg, ?_⟩
        rcases Bool.or_eq_true_iff.mp (List.all_eq_true.mp q4 g hg) with q5 | q5
        rcases Bool.or_eq_true_iff.mp q5 with q5 | q5
        · unfold ab_gd at g1 ⊢
          rw [ab_utl_ok hF q5]
          exact g1
        · unfold ab_gm at q5
          split at q5
          · rename_i e he
            have d := ab_df_ok hK hM hF hO he
            have z := ae_z_ok hK q5
            rw [d.2] at z
            unfold ab_gd at g1 ⊢
            omega
          · cases q5
        · exact absurd g1 (ab_gf_ok hK hO (ae_num_dn _) q5)
      · refine Or.inr ?_
        rw [ab_cv_fr hF (by simpa using q2), ab_utl_ok hF q3]
        exact g1
    · obtain ⟨g, hg, q⟩ := List.any_eq_true.mp q
      refine Or.inl ⟨g, hg, ?_⟩
      unfold ab_gn at q
      split at q
      · rename_i y hy
        have d := ab_cs_ok hK hM hF hO hy
        have z := ae_z_ok hK q
        rw [ae_pls_ev, d.2] at z
        unfold ab_gd
        omega
      · cases q
  · refine Or.inr ?_
    unfold ab_en at q
    split at q
    · rename_i x hx
      split at q
      · rename_i y hy
        have d1 := ab_cur_ok hK hM hF hO hx
        have d2 := ab_cs_ok hK hM hF hO hy
        have r := ae_rg_ok hK q
        rw [ae_sub_ev, d1.2, d2.2] at r
        omega
      · cases q
    · cases q
theorem ab_ric_ok (hK : ae_okK ρ k) (hM : ∀ m ∈ M, ae_eo k.1 ρ L xs h m) (hT : ab_RI T (ab_cv L xs h0)) (hF : ae_fr w L xs h0 h) (hO : ∀ m ∈ O, ae_eo k.1 ρ L xs h0 m) (q : ab_ric k M O w T T' = true) : ab_RI T' (ab_cv L xs h) := by
  intro t ht i hi
  unfold ab_ric at q
  cases hb : ab_ql ab_qt T T' with
  | true =>
    rw [hb] at q
    have e := ab_ql_ok ab_qt_ok hb
    exact ab_r1_ok hK hM hF hO (fun _ => hT t (by rw [e]; exact ht) i hi) (List.all_eq_true.mp (List.all_eq_true.mp q t ht) i (List.mem_range.mpr hi))
  | false =>
    rw [hb] at q
    refine ab_r1_ok hK hM hF hO (fun hs => ?_) (List.all_eq_true.mp (List.all_eq_true.mp q t ht) i (List.mem_range.mpr hi))
    obtain ⟨u, hu, e⟩ := List.any_eq_true.mp hs
    have e := ab_qt_ok _ _ e
    subst e
    exact hT u hu i hi
end ABC
/-! ties by cases: what else holds if none of its conditions does -/
noncomputable def ab_lq (T : List ab_Ti) (w : ae_Mo) (z : ab_Lz) (p j : Nat) : ab_Lz :=
  bif Nat.blt 0 p && Nat.ble p ae_np && Nat.blt j (ae_sh p).2.2 then (match ab_ld T w z.1 z.2.1 z.2.2 p (ae_num (j : Int)) with
    | some y => y
    | none => z) else z
noncomputable def ab_lqs (T : List ab_Ti) (w : ae_Mo) (i : Nat) : List ab_Tt → ab_Lz → ab_Lz
  | [], z => z
  | t :: r, z => ab_lqs T w i r (ab_lq T w z t.2.1 (t.2.2.1 + t.2.2.2 * i))
/-- cells of old that hold x, and what ties say of them -/
noncomputable def ab_al2 (T : List ab_Ti) (k : ae_K) (O : List ae_M) (x y : ae_X) (c : Int) : Bool := O.any fun m => Nat.blt m.2.2.1.1 2 && ae_xe (ae_nr k m.2.2.1.2.2) (ae_nr k x) && T.any fun t => match ab_ti k O m.1 m.2.1 t with
  | some u => ae_rg k (ae_sub u y) c c
  | none => false
noncomputable def ab_rz (T : List ab_Ti) (w : ae_Mo) (t : ab_Ti) (i : Nat) (z : ab_Lz) : Bool := match ab_lqs T w i t.2.2.2.1.2 (ab_lq T w z t.1 (t.2.1 + t.st * i)) with
  | (k, M, O) => (match ab_cur k M O w t.1 (t.2.1 + t.st * i) with
    | some x => (match ab_cs k M O w i t.2.2.2.1.2 with
      | some y => ae_rg k (ae_sub x y) t.2.2.2.1.1 t.2.2.2.1.1 || ab_al2 T k O x y t.2.2.2.1.1
      | none => false)
    | none => false)
noncomputable def ab_rg2 (T : List ab_Ti) (w : ae_Mo) (t : ab_Ti) (i : Nat) : List ab_Gd → ab_Lz → Bool
  | [], z => ab_rz T w t i z
  | g :: r, z => match ab_lqs T w i g.2.2 z with
    | (k, M, O) => (match ab_cs k M O w i g.2.2 with
      | some y => (ae_as k (ae_neg (ae_pls y (g.1 + g.2.1 * (i : Int))) 1)).all fun k2 => ab_rg2 T w t i r (k2, M, O)
      | none => false)
/-- none of a tie's places is written -/
noncomputable def ab_np (w : ae_Mo) (p : Nat) : Bool := w.all fun r => !(Nat.beq r.1 p)
noncomputable def ab_nt (w : ae_Mo) (l : List ab_Tt) : Bool := l.all fun t => ab_np w t.2.1
noncomputable def ab_nw (w : ae_Mo) (t : ab_Ti) : Bool := ab_np w t.1 && ab_nt w t.2.2.2.1.2 && t.2.2.2.2.1.all fun g => ab_nt w g.2.2
noncomputable def ab_ri2 (k : ae_K) (M O : List ae_M) (w : ae_Mo) (T : List ab_Ti) (s : Bool) (t : ab_Ti) : Bool := (s && ab_nw w t) || (List.range t.2.2.1).all fun i => ab_r1 k M O w s t i || ab_rg2 T w t i t.2.2.2.2.1 (k, M, O)
noncomputable def ab_ric2 (k : ae_K) (M O : List ae_M) (w : ae_Mo) (T T' : List ab_Ti) : Bool := bif ab_ql ab_qt T T' then T'.all (ab_ri2 k M O w T true)
  else T'.all fun t => ab_ri2 k M O w T (T.any fun u => ab_qt u t) t
section ABG
variable {L : Nat} {xs : Nat → Int32} {h0 h : List am_E} {w : ae_Mo} {T T' : List ab_Ti}
theorem ab_lq_ok (hr : ae_rok = true) (hT : ab_RI T (ab_cv L xs h0)) (hF : ae_fr w L xs h0 h) {ρ : Nat → Int} {z : ab_Lz} (S : ab_lk L xs h0 h ρ z) (p j : Nat) : ∃ ρ', ae_up2 ρ z.1 ρ' (ab_lq T w z p j).1 ∧ ab_lk L xs h0 h ρ' (ab_lq T w z p j) := by
  unfold ab_lq
  cases hb : Nat.blt 0 p && Nat.ble p ae_np && Nat.blt j (ae_sh p).2.2 with
  | false => exact ⟨ρ, ab_up_rf S.1, S⟩
  | true =>
    simp only [Bool.and_eq_true] at hb
    obtain ⟨⟨b1, b2⟩, b3⟩ := hb
    show ∃ ρ', ae_up2 ρ z.1 ρ' (match ab_ld T w z.1 z.2.1 z.2.2 p (ae_num (j : Int)) with
      | some y => y
      | none => z).1 ∧ ab_lk L xs h0 h ρ' (match ab_ld T w z.1 z.2.1 z.2.2 p (ae_num (j : Int)) with
      | some y => y
      | none => z)
    cases hl : ab_ld T w z.1 z.2.1 z.2.2 p (ae_num (j : Int)) with
    | none => exact ⟨ρ, ab_up_rf S.1, S⟩
    | some y =>
      obtain ⟨ρ', u, H, O⟩ := ab_ld_ok hr S.1 S.2.1 hT hF S.2.2 (ae_num_dn _) (Nat.blt_eq.mp b1) (Nat.le_of_ble_eq_true b2) (Nat.blt_eq.mp b3) hl
      exact ⟨ρ', u, u.2.2, H, O⟩
theorem ab_lqs_ok (hr : ae_rok = true) (hT : ab_RI T (ab_cv L xs h0)) (hF : ae_fr w L xs h0 h) {i : Nat} : ∀ {l : List ab_Tt} {ρ : Nat → Int} {z : ab_Lz}, ab_lk L xs h0 h ρ z → ∃ ρ', ae_up2 ρ z.1 ρ' (ab_lqs T w i l z).1 ∧ ab_lk L xs h0 h ρ' (ab_lqs T w i l z)
  | [], ρ, z, S => ⟨ρ, ab_up_rf S.1, S⟩
  | t :: r, ρ, z, S => by
    obtain ⟨ρ1, u1, S1⟩ := ab_lq_ok hr hT hF S t.2.1 (t.2.2.1 + t.2.2.2 * i)
    obtain ⟨ρ2, u2, S2⟩ := ab_lqs_ok hr hT hF (l := r) S1
    exact ⟨ρ2, u1.tr u2, S2⟩
theorem ab_rz_ok (hr : ae_rok = true) (hT : ab_RI T (ab_cv L xs h0)) (hF : ae_fr w L xs h0 h) {t : ab_Ti} {i : Nat} {ρ : Nat → Int} {z : ab_Lz} (S : ab_lk L xs h0 h ρ z) (q : ab_rz T w t i z = true) : ab_cv L xs h t.1 (t.2.1 + t.st * i) = t.2.2.2.1.1 + ab_sum (ab_cv L xs h) i t.2.2.2.1.2 := by
  unfold ab_rz at q
  obtain ⟨ρ1, u1, S1⟩ := ab_lq_ok hr hT hF S t.1 (t.2.1 + t.st * i)
  obtain ⟨ρ2, u2, S2⟩ := ab_lqs_ok hr hT hF (i := i) (l := t.2.2.2.1.2) S1
  generalize ab_lqs T w i t.2.2.2.1.2 (ab_lq T w z t.1 (t.2.1 + t.st * i)) = y at q S2
  obtain ⟨k, M, O⟩ := y
  obtain ⟨K, H, HO⟩ := S2
  change (match ab_cur k M O w t.1 (t.2.1 + t.st * i) with
    | some x => (match ab_cs k M O w i t.2.2.2.1.2 with
      | some y => ae_rg k (ae_sub x y) t.2.2.2.1.1 t.2.2.2.1.1 || ab_al2 T k O x y t.2.2.2.1.1
      | none => false)
    | none => false) = true at q
  split at q
  · rename_i x hx
    split at q
    · rename_i y hy
      have d1 := ab_cur_ok K H.2.1 hF HO hx
      have d2 := ab_cs_ok K H.2.1 hF HO hy
      rcases Bool.or_eq_true_iff.mp q with q | q
      · have r := ae_rg_ok K q
        rw [ae_sub_ev, d1.2, d2.2] at r
        omega
      · obtain ⟨m, hm, q⟩ := List.any_eq_true.mp q
        simp only [Bool.and_eq_true] at q
        obtain ⟨⟨a1, a2⟩, a3⟩ := q
        obtain ⟨u, hu, q⟩ := List.any_eq_true.mp a3
        split at q
        · rename_i v hv
          obtain ⟨j, c, e1, e2, e3⟩ := HO m hm
          have dv := ab_ti_ok K HO hT e1 hu hv
          have dm := ae_nr_dn K (ab_ok_cv a1 e3 e2)
          have dx := ae_nr_dn K d1
          rw [ae_xe_ok a2] at dm
          have r := ae_rg_ok K q
          rw [ae_sub_ev, dv.2, d2.2] at r
          have := dm.2.symm.trans dx.2
          omega
        · cases q
    · cases q
  · cases q
theorem ab_rg2_ok (hr : ae_rok = true) (hT : ab_RI T (ab_cv L xs h0)) (hF : ae_fr w L xs h0 h) {t : ab_Ti} {i : Nat} : ∀ {gs : List ab_Gd} {ρ : Nat → Int} {z : ab_Lz}, ab_lk L xs h0 h ρ z → ab_rg2 T w t i gs z = true → (∃ g ∈ gs, ab_gd (ab_cv L xs h) i g ≤ 0) ∨ ab_cv L xs h t.1 (t.2.1 + t.st * i) = t.2.2.2.1.1 + ab_sum (ab_cv L xs h) i t.2.2.2.1.2
  | [], ρ, z, S, q => Or.inr (ab_rz_ok hr hT hF S q)
  | g :: r, ρ, z, S, q => by
    by_cases hg : ab_gd (ab_cv L xs h) i g ≤ 0
    · exact Or.inl ⟨g, List.mem_cons_self, hg⟩
    · unfold ab_rg2 at q
      obtain ⟨ρ1, u1, S1⟩ := ab_lqs_ok hr hT hF (i := i) (l := g.2.2) S
      generalize ab_lqs T w i g.2.2 z = y at q S1
      obtain ⟨k, M, O⟩ := y
      obtain ⟨K, H, HO⟩ := S1
      change (match ab_cs k M O w i g.2.2 with
        | some y => (ae_as k (ae_neg (ae_pls y (g.1 + g.2.1 * (i : Int))) 1)).all fun k2 => ab_rg2 T w t i r (k2, M, O)
        | none => false) = true at q
      split at q
      · rename_i y hy
        have d := ab_cs_ok K H.2.1 hF HO hy
        unfold ab_gd at hg
        obtain ⟨k2, m2, K2, n2⟩ := ae_as_ok K (ae_neg_dn (ae_pls_dn d (g.1 + g.2.1 * (i : Int))) 1) (by omega)
        have q := List.all_eq_true.mp q k2 m2
        have n2 : k2.1 = k.1 := n2
        refine (ab_rg2_ok hr hT hF (gs := r) (z := (k2, M, O)) ⟨K2, ?_, ?_⟩ q).imp (fun ⟨g, a, b⟩ => ⟨g, List.mem_cons_of_mem _ a, b⟩) id
        · show ae_hp false k2.1 ρ1 L xs M h; rw [n2]; exact H
        · show ∀ m ∈ O, ae_eo k2.1 ρ1 L xs h0 m; rw [n2]; exact HO
      · cases q
theorem ab_np_ok {p j : Nat} (q : ab_np w p = true) : ae_inm w p j = false := by
  cases hin : ae_inm w p j with
  | false => rfl
  | true =>
    obtain ⟨r, hr, h1⟩ := List.any_eq_true.mp hin
    have h2 := List.all_eq_true.mp q r hr
    simp only [Bool.and_eq_true] at h1
    rw [h1.1.1] at h2
    cases h2
theorem ab_nw_ok (hF : ae_fr w L xs h0 h) {t : ab_Ti} {i : Nat} (q : ab_nw w t = true) (hh : ab_hold (ab_cv L xs h0) t i) : ab_hold (ab_cv L xs h) t i := by
  unfold ab_nw at q
  simp only [Bool.and_eq_true] at q
  rcases hh with ⟨g, hg, g1⟩ | g1
  · refine Or.inl ⟨g, hg, ?_⟩
    have e := ab_sum_eq (f := ab_cv L xs h0) (g := ab_cv L xs h) (i := i) (l := g.2.2) (fun t ht => ab_cv_fr hF (ab_np_ok (List.all_eq_true.mp (List.all_eq_true.mp q.2 g hg) t ht)))
    unfold ab_gd at g1 ⊢
    rw [e]
    exact g1
  · have e := ab_sum_eq (f := ab_cv L xs h0) (g := ab_cv L xs h) (i := i) (l := t.2.2.2.1.2) (fun t ht => ab_cv_fr hF (ab_np_ok (List.all_eq_true.mp q.1.2 t ht)))
    refine Or.inr ?_
    rw [e, ab_cv_fr hF (ab_np_ok q.1.1)]
    exact g1
theorem ab_ri2_ok (hr : ae_rok = true) {ρ : Nat → Int} {k : ae_K} {M O : List ae_M} (hT : ab_RI T (ab_cv L xs h0)) (hF : ae_fr w L xs h0 h) (S : ab_lk L xs h0 h ρ (k, M, O)) {s : Bool} {t : ab_Ti} (hs : s = true → t ∈ T) (q : ab_ri2 k M O w T s t = true) : ∀ i, i < t.2.2.1 → ab_hold (ab_cv L xs h) t i := by
  intro i hi
  rcases Bool.or_eq_true_iff.mp (show ((s && ab_nw w t) || (List.range t.2.2.1).all fun i => ab_r1 k M O w s t i || ab_rg2 T w t i t.2.2.2.2.1 (k, M, O)) = true from q) with q | q
  · rw [Bool.and_eq_true] at q
    exact ab_nw_ok hF q.2 (hT t (hs q.1) i hi)
  have q := List.all_eq_true.mp q i (List.mem_range.mpr hi)
  rcases Bool.or_eq_true_iff.mp q with q | q
  · exact ab_r1_ok S.1 S.2.1.2.1 hF S.2.2 (fun e => hT t (hs e) i hi) q
  · exact ab_rg2_ok hr hT hF S q
theorem ab_ric2_ok (hr : ae_rok = true) {ρ : Nat → Int} {k : ae_K} {M O : List ae_M} (hK : ae_okK ρ k) (hH : ae_hp false k.1 ρ L xs M h) (hT : ab_RI T (ab_cv L xs h0)) (hF : ae_fr w L xs h0 h) (hO : ∀ m ∈ O, ae_eo k.1 ρ L xs h0 m) (q : ab_ric2 k M O w T T' = true) : ab_RI T' (ab_cv L xs h) := by
  intro t ht
  unfold ab_ric2 at q
  cases hb : ab_ql ab_qt T T' with
  | true =>
    rw [hb] at q
    have e := ab_ql_ok ab_qt_ok hb
    exact ab_ri2_ok hr hT hF ⟨hK, hH, hO⟩ (fun _ => by rw [e]; exact ht) (List.all_eq_true.mp q t ht)
  | false =>
    rw [hb] at q
    refine ab_ri2_ok hr hT hF ⟨hK, hH, hO⟩ (fun hs => ?_) (List.all_eq_true.mp q t ht)
    obtain ⟨u, hu, e⟩ := List.any_eq_true.mp hs
    have e := ab_qt_ok _ _ e
    subst e
    exact hu
end ABG

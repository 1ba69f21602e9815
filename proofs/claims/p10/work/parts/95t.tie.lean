/-! Ties: cells whose numbers go with other cells' -/
abbrev ab_Gd : Type := Int × Int × List (Int × Nat × Nat)
/-- a tie: place, first index, how many; its number is so much and so many times other cells; or one of these is no greater than 0 -/
abbrev ab_Ti : Type := Nat × Nat × Nat × (Int × List (Int × Nat × Nat)) × List ab_Gd
def ab_vz (o : Option Value) : Int := match o with
  | some (.int x) => x.toInt
  | some (.long x) => x.toInt
  | _ => 0
def ab_cv (L : Nat) (xs : Nat → Int32) (h : List am_E) (p j : Nat) : Int := ab_vz (ae_cell L xs h p j)
def ab_sum (f : Nat → Nat → Int) (i : Nat) : List (Int × Nat × Nat) → Int
  | [] => 0
  | t :: r => t.1 * f t.2.1 (t.2.2 + i) + ab_sum f i r
def ab_gd (f : Nat → Nat → Int) (i : Nat) (g : ab_Gd) : Int := g.1 + g.2.1 * (i : Int) + ab_sum f 0 g.2.2
def ab_hold (f : Nat → Nat → Int) (t : ab_Ti) (i : Nat) : Prop := (∃ g ∈ t.2.2.2.2, ab_gd f i g ≤ 0) ∨ f t.1 (t.2.1 + i) = t.2.2.2.1.1 + ab_sum f i t.2.2.2.1.2
def ab_RI (T : List ab_Ti) (f : Nat → Nat → Int) : Prop := ∀ t ∈ T, ∀ i, i < t.2.2.1 → ab_hold f t i
theorem ab_sum_eq {f g : Nat → Nat → Int} {i : Nat} : ∀ {l : List (Int × Nat × Nat)}, (∀ t ∈ l, g t.2.1 (t.2.2 + i) = f t.2.1 (t.2.2 + i)) → ab_sum g i l = ab_sum f i l
  | [], _ => rfl
  | t :: r, h => by
    show t.1 * g t.2.1 (t.2.2 + i) + ab_sum g i r = t.1 * f t.2.1 (t.2.2 + i) + ab_sum f i r
    rw [h t List.mem_cons_self, ab_sum_eq (l := r) (fun t ht => h t (List.mem_cons_of_mem _ ht))]
theorem ab_RI_eq {f g : Nat → Nat → Int} (e : ∀ p j, g p j = f p j) {T : List ab_Ti} (q : ab_RI T f) : ab_RI T g := by
  have : g = f := funext fun p => funext fun j => e p j
  rw [this]; exact q
/-! what the entries of old say -/
def ab_ou (k : ae_K) (w : ae_Mo) (p : Nat) (e : ae_X) : Bool := ae_ou k w (p, e, (0, 0, ae_num 0), false)
def ab_ov (k : ae_K) (O : List ae_M) (p : Nat) (e : ae_X) : Option ae_X := (ae_fd O p (ae_nr k e)).bind fun m => bif Nat.blt m.2.2.1.1 2 then some m.2.2.1.2.2 else none
def ab_os (k : ae_K) (O : List ae_M) (i : ae_X) : List (Int × Nat × Nat) → Option ae_X
  | [] => some (ae_num 0)
  | t :: r => (ab_ov k O t.2.1 (ae_pls i (t.2.2 : Int))).bind fun x => (ab_os k O i r).bind fun y => some (ae_add (ae_scl t.1 x) y)
def ab_gf (k : ae_K) (O : List ae_M) (i : ae_X) (g : ab_Gd) : Bool := match ab_os k O (ae_num 0) g.2.2 with
  | some y => ae_z k (ae_neg (ae_add (ae_scl g.2.1 i) y) (1 - g.1))
  | none => false
def ab_ti (k : ae_K) (O : List ae_M) (p : Nat) (e : ae_X) (t : ab_Ti) : Option ae_X :=
  bif Nat.beq t.1 p && ae_rg k (ae_pls e (-(t.2.1 : Int))) 0 ((t.2.2.1 : Int) - 1) && t.2.2.2.2.all (ab_gf k O (ae_pls e (-(t.2.1 : Int)))) then
    (ab_os k O (ae_pls e (-(t.2.1 : Int))) t.2.2.2.1.2).bind fun y => some (ae_pls y t.2.2.2.1.1)
  else none
def ab_tj1 (k : ae_K) (O : List ae_M) (p : Nat) (e : ae_X) (t : ab_Ti) (q : Int × Nat × Nat) : Option ae_X :=
  bif Nat.beq q.2.1 p && ae_ie q.1 1 && ae_ie t.2.2.2.1.1 0 && ae_rg k (ae_pls e (-(q.2.2 : Int))) 0 ((t.2.2.1 : Int) - 1) && t.2.2.2.2.all (ab_gf k O (ae_pls e (-(q.2.2 : Int)))) then
    ab_ov k O t.1 (ae_pls (ae_pls e (-(q.2.2 : Int))) (t.2.1 : Int)) else none
def ab_tj (k : ae_K) (O : List ae_M) (p : Nat) (e : ae_X) (t : ab_Ti) : Option ae_X := match t.2.2.2.1.2 with
  | [q] => ab_tj1 k O p e t q
  | _ => none
def ab_tv (k : ae_K) (O : List ae_M) (T : List ab_Ti) (p : Nat) (e : ae_X) : Option ae_X := match T.findSome? (ab_ti k O p e) with
  | some x => some x
  | none => T.findSome? (ab_tj k O p e)
section ABA
variable {L : Nat} {xs : Nat → Int32} {ρ : Nat → Int} {k : ae_K} {O : List ae_M} {h0 h : List am_E}
theorem ab_ok_cv {n : Nat} {a : ae_V} {v : Value} {p j : Nat} (ha : Nat.blt a.1 2 = true) (hv : ae_ok n ρ a v) (hc : ae_cell L xs h p j = some v) : ae_dn n ρ a.2.2 (ab_cv L xs h p j) := by
  unfold ab_cv
  rw [hc]
  obtain ⟨t, q, e⟩ := a
  match t, ha, hv with
  | 0, _, hv => obtain ⟨x, rfl, d⟩ := hv; exact d
  | 1, _, hv => obtain ⟨x, rfl, d⟩ := hv; exact d
  | t + 2, ha, _ => exact absurd (Nat.blt_eq.mp ha) (by show ¬ t + 2 < 2; omega)
theorem ab_ov_ok (hK : ae_okK ρ k) (hO : ∀ m ∈ O, ae_eo k.1 ρ L xs h m) {p j : Nat} {e x : ae_X} (hd : ae_dn k.1 ρ e (j : Int)) (q : ab_ov k O p e = some x) : ae_dn k.1 ρ x (ab_cv L xs h p j) := by
  obtain ⟨m, h1, q⟩ := Option.bind_eq_some_iff.mp q
  obtain ⟨hb, q⟩ := ae_bif q
  cases q
  obtain ⟨m1, m2, m3⟩ := ae_fd_ok h1
  obtain ⟨j', v, d1, c1, o1⟩ := hO m m1
  have d2 := ae_nr_dn hK hd
  rw [m3] at d1
  have : j' = j := by have := d1.2; rw [d2.2] at this; omega
  subst this
  rw [m2] at c1
  exact ab_ok_cv hb o1 c1
theorem ab_os_ok (hK : ae_okK ρ k) (hO : ∀ m ∈ O, ae_eo k.1 ρ L xs h m) {i : ae_X} {i0 : Nat} (hi : ae_dn k.1 ρ i (i0 : Int)) : ∀ {l : List (Int × Nat × Nat)} {y : ae_X}, ab_os k O i l = some y → ae_dn k.1 ρ y (ab_sum (ab_cv L xs h) i0 l)
  | [], y, q => by cases q; exact ae_num_dn 0
  | t :: r, y, q => by
    obtain ⟨x, h1, q⟩ := Option.bind_eq_some_iff.mp q
    obtain ⟨y', h2, q⟩ := Option.bind_eq_some_iff.mp q
    cases q
    have d := ae_pls_dn hi (t.2.2 : Int)
    rw [show (i0 : Int) + (t.2.2 : Int) = ((t.2.2 + i0 : Nat) : Int) by omega] at d
    exact ae_add_dn (ae_scl_dn (ab_ov_ok hK hO d h1) t.1) (ab_os_ok hK hO hi h2)
theorem ab_gf_ok (hK : ae_okK ρ k) (hO : ∀ m ∈ O, ae_eo k.1 ρ L xs h m) {i : ae_X} {i0 : Nat} (hi : ae_dn k.1 ρ i (i0 : Int)) {g : ab_Gd} (q : ab_gf k O i g = true) : ¬ ab_gd (ab_cv L xs h) i0 g ≤ 0 := by
  unfold ab_gf at q
  split at q
  · rename_i y hy
    have d := ab_os_ok hK hO (ae_num_dn (n := k.1) (ρ := ρ) ((0 : Nat) : Int)) hy
    have z := ae_z_ok hK q
    rw [(ae_neg_dn (ae_add_dn (ae_scl_dn hi g.2.1) d) (1 - g.1)).2] at z
    unfold ab_gd
    omega
  · cases q
theorem ab_ix {e : ae_X} {j a n : Nat} (hK : ae_okK ρ k) (hd : ae_dn k.1 ρ e (j : Int)) (q : ae_rg k (ae_pls e (-(a : Int))) 0 ((n : Int) - 1) = true) : ∃ i0 : Nat, j = a + i0 ∧ i0 < n ∧ ae_dn k.1 ρ (ae_pls e (-(a : Int))) (i0 : Int) := by
  have d := ae_pls_dn hd (-(a : Int))
  have r := ae_rg_ok hK q
  rw [d.2] at r
  refine ⟨j - a, by omega, by omega, ?_⟩
  rw [show (((j - a : Nat)) : Int) = (j : Int) + -(a : Int) by omega]
  exact d
theorem ab_ti_ok (hK : ae_okK ρ k) (hO : ∀ m ∈ O, ae_eo k.1 ρ L xs h m) {T : List ab_Ti} (hT : ab_RI T (ab_cv L xs h)) {p j : Nat} {e x : ae_X} (hd : ae_dn k.1 ρ e (j : Int)) {t : ab_Ti} (ht : t ∈ T) (q : ab_ti k O p e t = some x) : ae_dn k.1 ρ x (ab_cv L xs h p j) := by
  obtain ⟨hb, q⟩ := ae_bif q
  simp only [Bool.and_eq_true] at hb
  obtain ⟨⟨b1, b2⟩, b3⟩ := hb
  obtain ⟨y, h1, q⟩ := Option.bind_eq_some_iff.mp q
  cases q
  obtain ⟨i0, e1, e2, di⟩ := ab_ix hK hd b2
  have b1 := Nat.eq_of_beq_eq_true b1
  rcases hT t ht i0 e2 with ⟨g, hg, g1⟩ | g1
  · exact absurd g1 (ab_gf_ok hK hO di (List.all_eq_true.mp b3 g hg))
  · have dy := ae_pls_dn (ab_os_ok hK hO di h1) t.2.2.2.1.1
    subst b1
    rw [e1, g1, Int.add_comm]
    exact dy
theorem ab_tj_ok (hK : ae_okK ρ k) (hO : ∀ m ∈ O, ae_eo k.1 ρ L xs h m) {T : List ab_Ti} (hT : ab_RI T (ab_cv L xs h)) {p j : Nat} {e x : ae_X} (hd : ae_dn k.1 ρ e (j : Int)) {t : ab_Ti} (ht : t ∈ T) (q : ab_tj k O p e t = some x) : ae_dn k.1 ρ x (ab_cv L xs h p j) := by
  unfold ab_tj at q
  split at q
  · rename_i c hc
    obtain ⟨hb, q⟩ := ae_bif q
    simp only [Bool.and_eq_true] at hb
    obtain ⟨⟨⟨⟨b1, b2⟩, b3⟩, b4⟩, b5⟩ := hb
    obtain ⟨i0, e1, e2, di⟩ := ab_ix hK hd b4
    have b1 := Nat.eq_of_beq_eq_true b1
    have b2 := ae_ie_ok b2
    have b3 := ae_ie_ok b3
    rcases hT t ht i0 e2 with ⟨g, hg, g1⟩ | g1
    · exact absurd g1 (ab_gf_ok hK hO di (List.all_eq_true.mp b5 g hg))
    · have d := ae_pls_dn di (t.2.1 : Int)
      rw [show (i0 : Int) + (t.2.1 : Int) = ((t.2.1 + i0 : Nat) : Int) by omega] at d
      have dx := ab_ov_ok hK hO d q
      rw [hc, b3] at g1
      have g2 : ab_cv L xs h t.1 (t.2.1 + i0) = 0 + (c.1 * ab_cv L xs h c.2.1 (c.2.2 + i0) + 0) := g1
      rw [b2, b1, ← e1] at g2
      rw [show ab_cv L xs h p j = ab_cv L xs h t.1 (t.2.1 + i0) by omega]
      exact dx
  · cases q
theorem ab_fs {α β : Type} {f : α → Option β} : ∀ {l : List α} {b : β}, l.findSome? f = some b → ∃ a ∈ l, f a = some b
  | [], b, q => by cases q
  | a :: r, b, q => by
    rw [List.findSome?_cons] at q
    split at q
    · rename_i c hc
      cases q
      exact ⟨a, List.mem_cons_self, hc⟩
    · obtain ⟨a', h1, h2⟩ := ab_fs q
      exact ⟨a', List.mem_cons_of_mem _ h1, h2⟩
theorem ab_tv_ok (hK : ae_okK ρ k) (hO : ∀ m ∈ O, ae_eo k.1 ρ L xs h m) {T : List ab_Ti} (hT : ab_RI T (ab_cv L xs h)) {p j : Nat} {e x : ae_X} (hd : ae_dn k.1 ρ e (j : Int)) (q : ab_tv k O T p e = some x) : ae_dn k.1 ρ x (ab_cv L xs h p j) := by
  unfold ab_tv at q
  split at q
  · rename_i y hy
    cases q
    obtain ⟨t, h1, h2⟩ := ab_fs hy
    exact ab_ti_ok hK hO hT hd h1 h2
  · obtain ⟨t, h1, h2⟩ := ab_fs q
    exact ab_tj_ok hK hO hT hd h1 h2
end ABA
/-! a cell is looked at: what is known of it comes into the entries, and into the old ones if it is as it was -/
def ab_ld (T : List ab_Ti) (w : ae_Mo) (k : ae_K) (M O : List ae_M) (p : Nat) (e0 : ae_X) : Option (ae_K × List ae_M × List ae_M) :=
  match ae_fd M p (ae_nr k e0) with
  | some _ => some (k, M, O)
  | none => bif ab_ou k w p (ae_nr k e0) then
      (match ae_fd O p (ae_nr k e0) with
      | some m => some (k, (p, ae_nr k e0, m.2.2.1, false) :: M, O)
      | none => (match ab_tv k O T p (ae_nr k e0) with
        | some x => (ae_hull k p (ae_nr k e0)).bind fun i => bif Nat.blt i.1 2 && ae_nd k M p (ae_nr k e0) then some (k, (p, ae_nr k e0, (i.1, 0, x), false) :: M, (p, ae_nr k e0, (i.1, 0, x), false) :: O) else none
        | none => (ae_ld false k M p e0).bind fun q => some (q.1, q.2.1, (p, ae_nr k e0, q.2.2, false) :: O)))
    else (ae_ld false k M p e0).bind fun q => some (q.1, q.2.1, O)
section ABB
variable {L : Nat} {xs : Nat → Int32} {ρ : Nat → Int} {k : ae_K} {M O : List ae_M} {h0 h : List am_E} {w : ae_Mo} {T : List ab_Ti}
theorem ab_ou_ok (hK : ae_okK ρ k) {p j : Nat} {e : ae_X} (hd : ae_dn k.1 ρ e (j : Int)) (q : ab_ou k w p e = true) : ae_inm w p j = false :=
  ae_ou_ok (m := (p, e, (0, 0, ae_num 0), false)) hK hd.2 q
theorem ab_hp1 {n : Nat} {m : ae_M} (H : ae_hp false n ρ L xs M h) (hm : ae_eo n ρ L xs h m) : ae_hp false n ρ L xs (m :: M) h :=
  ae_hp_add (A := [m]) H (fun q hq => by rw [List.mem_singleton.mp hq]; exact hm)
theorem ab_ld_ok (hr : ae_rok = true) (hK : ae_okK ρ k) (hH : ae_hp false k.1 ρ L xs M h) (hT : ab_RI T (ab_cv L xs h0)) (hF : ae_fr w L xs h0 h) (hO : ∀ m ∈ O, ae_eo k.1 ρ L xs h0 m) {p j : Nat} {e0 : ae_X} (hd : ae_dn k.1 ρ e0 (j : Int)) (hp : 0 < p) (hp2 : p ≤ ae_np) (hj : j < (ae_sh p).2.2) {z : ae_K × List ae_M × List ae_M} (q : ab_ld T w k M O p e0 = some z) :
    ∃ ρ', ae_up2 ρ k ρ' z.1 ∧ ae_hp false z.1.1 ρ' L xs z.2.1 h ∧ ∀ m ∈ z.2.2, ae_eo z.1.1 ρ' L xs h0 m := by
  have he := ae_nr_dn hK hd
  obtain ⟨v, hv⟩ := ae_cell_ex (L := L) (xs := xs) hH.1 hp hp2 hj
  have me : ae_up2 ρ k ρ k := ⟨Nat.le_refl _, ae_ag_rf _ _, hK⟩
  unfold ab_ld at q
  split at q
  · cases q
    exact ⟨ρ, me, hH, hO⟩
  · cases hb : ab_ou k w p (ae_nr k e0) with
    | false =>
      rw [hb] at q
      obtain ⟨⟨k1, M1, a1⟩, h1, q⟩ := Option.bind_eq_some_iff.mp q
      cases q
      obtain ⟨ρ', u, H, -⟩ := ae_ld_ok hr hK hH hd hv (fun _ => ⟨hp2, hj⟩) h1
      exact ⟨ρ', u, H, fun m hm => ae_eo_ext u.1 u.2.1 (hO m hm)⟩
    | true =>
      rw [hb] at q
      have hin := ab_ou_ok hK he hb
      have hv0 : ae_cell L xs h0 p j = some v := (hF p j hin).symm.trans hv
      change (match ae_fd O p (ae_nr k e0) with
      | some m => some (k, (p, ae_nr k e0, m.2.2.1, false) :: M, O)
      | none => (match ab_tv k O T p (ae_nr k e0) with
        | some x => (ae_hull k p (ae_nr k e0)).bind fun i => bif Nat.blt i.1 2 && ae_nd k M p (ae_nr k e0) then some (k, (p, ae_nr k e0, (i.1, 0, x), false) :: M, (p, ae_nr k e0, (i.1, 0, x), false) :: O) else none
        | none => (ae_ld false k M p e0).bind fun q => some (q.1, q.2.1, (p, ae_nr k e0, q.2.2, false) :: O))) = some z at q
      split at q
      · rename_i m hm
        cases q
        obtain ⟨m1, m2, m3⟩ := ae_fd_ok hm
        obtain ⟨j', v', d1, c1, o1⟩ := hO m m1
        rw [m3] at d1
        have : j' = j := by have := d1.2; rw [he.2] at this; omega
        subst this
        rw [m2, hv0] at c1
        cases c1
        exact ⟨ρ, me, ab_hp1 hH ⟨j', v, he, hv, o1⟩, hO⟩
      · split at q
        · rename_i x hx
          obtain ⟨i, h1, q⟩ := Option.bind_eq_some_iff.mp q
          obtain ⟨hb2, q⟩ := ae_bif q
          cases q
          rw [Bool.and_eq_true] at hb2
          have dx := ab_tv_ok hK hO hT he hx
          have i1 := ae_hull_ok hK hp he.2 h1
          have io : ae_io (ae_iv p j) v := by
            rcases hH.2.2.1 p j v hp hv with g | g | g
            · exact g
            · exact absurd g (ae_nd_ok hK he.2 hb2.2)
            · exact absurd g.1 (by decide)
          have ok : ae_ok k.1 ρ (i.1, 0, x) v := by
            unfold ab_cv at dx
            rw [hv0] at dx
            unfold ae_io at io
            rw [← i1.1] at io
            obtain ⟨i', b, c⟩ := i
            match i', hb2.1, io with
            | 0, _, io => obtain ⟨y, rfl, -⟩ := io; exact ⟨y, rfl, dx⟩
            | 1, _, io => obtain ⟨y, rfl, -⟩ := io; exact ⟨y, rfl, dx⟩
            | t + 2, hb2, _ => exact absurd (Nat.blt_eq.mp hb2) (by show ¬ t + 2 < 2; omega)
          refine ⟨ρ, me, ab_hp1 hH ⟨j, v, he, hv, ok⟩, fun m hm => ?_⟩
          rcases List.mem_cons.mp hm with rfl | hm
          · exact ⟨j, v, he, hv0, ok⟩
          · exact hO m hm
        · obtain ⟨⟨k1, M1, a1⟩, h1, q⟩ := Option.bind_eq_some_iff.mp q
          cases q
          obtain ⟨ρ', u, H, o1⟩ := ae_ld_ok hr hK hH hd hv (fun _ => ⟨hp2, hj⟩) h1
          refine ⟨ρ', u, H, fun m hm => ?_⟩
          rcases List.mem_cons.mp hm with rfl | hm
          · exact ⟨j, v, ae_dn_ext u.1 u.2.1 he, hv0, o1⟩
          · exact ae_eo_ext u.1 u.2.1 (hO m hm)
end ABB
/-! whether ties hold now -/
def ab_cur (k : ae_K) (M O : List ae_M) (w : ae_Mo) (p j : Nat) : Option ae_X := match ab_ov k M p (ae_num (j : Int)) with
  | some x => some x
  | none => bif ae_inm w p j then none else ab_ov k O p (ae_num (j : Int))
def ab_cs (k : ae_K) (M O : List ae_M) (w : ae_Mo) (i : Nat) : List (Int × Nat × Nat) → Option ae_X
  | [] => some (ae_num 0)
  | t :: r => (ab_cur k M O w t.2.1 (t.2.2 + i)).bind fun x => (ab_cs k M O w i r).bind fun y => some (ae_add (ae_scl t.1 x) y)
def ab_utl (w : ae_Mo) (i : Nat) (l : List (Int × Nat × Nat)) : Bool := l.all fun t => !(ae_inm w t.2.1 (t.2.2 + i))
/-- a sum's new value less its old one -/
def ab_df (k : ae_K) (M O : List ae_M) (w : ae_Mo) : List (Int × Nat × Nat) → Option ae_X
  | [] => some (ae_num 0)
  | t :: r => (ab_df k M O w r).bind fun y => bif ae_inm w t.2.1 (t.2.2 + 0) then (ab_ov k M t.2.1 (ae_num ((t.2.2 + 0 : Nat) : Int))).bind fun x => (ab_ov k O t.2.1 (ae_num ((t.2.2 + 0 : Nat) : Int))).bind fun o => some (ae_add (ae_scl t.1 (ae_sub x o)) y) else some y
def ab_gm (k : ae_K) (M O : List ae_M) (w : ae_Mo) (g : ab_Gd) : Bool := match ab_df k M O w g.2.2 with
  | some e => ae_z k e
  | none => false
def ab_gn (k : ae_K) (M O : List ae_M) (w : ae_Mo) (i : Nat) (g : ab_Gd) : Bool := match ab_cs k M O w 0 g.2.2 with
  | some y => ae_z k (ae_pls y (g.1 + g.2.1 * (i : Int)))
  | none => false
def ab_en (k : ae_K) (M O : List ae_M) (w : ae_Mo) (t : ab_Ti) (i : Nat) : Bool := match ab_cur k M O w t.1 (t.2.1 + i) with
  | some x => (match ab_cs k M O w i t.2.2.2.1.2 with
    | some y => ae_rg k (ae_sub x y) t.2.2.2.1.1 t.2.2.2.1.1
    | none => false)
  | none => false
def ab_r1 (k : ae_K) (M O : List ae_M) (w : ae_Mo) (s : Bool) (t : ab_Ti) (i : Nat) : Bool :=
  (s && !(ae_inm w t.1 (t.2.1 + i)) && ab_utl w i t.2.2.2.1.2 && t.2.2.2.2.all fun g => ab_utl w 0 g.2.2 || ab_gm k M O w g || ab_gf k O (ae_num (i : Int)) g) || t.2.2.2.2.any (ab_gn k M O w i) || ab_en k M O w t i
def ab_ql {α : Type} (e : α → α → Bool) : List α → List α → Bool
  | [], [] => true
  | a :: r, b :: t => e a b && ab_ql e r t
  | _, _ => false
def ab_q3 (a b : Int × Nat × Nat) : Bool := ae_ie a.1 b.1 && Nat.beq a.2.1 b.2.1 && Nat.beq a.2.2 b.2.2
def ab_qg (a b : ab_Gd) : Bool := ae_ie a.1 b.1 && ae_ie a.2.1 b.2.1 && ab_ql ab_q3 a.2.2 b.2.2
def ab_qt (a b : ab_Ti) : Bool := Nat.beq a.1 b.1 && Nat.beq a.2.1 b.2.1 && Nat.beq a.2.2.1 b.2.2.1 && ae_ie a.2.2.2.1.1 b.2.2.2.1.1 && ab_ql ab_q3 a.2.2.2.1.2 b.2.2.2.1.2 && ab_ql ab_qg a.2.2.2.2 b.2.2.2.2
theorem ab_ql_ok {α : Type} {e : α → α → Bool} (h : ∀ a b, e a b = true → a = b) : ∀ {a b : List α}, ab_ql e a b = true → a = b
  | [], [], _ => rfl
  | a :: r, b :: t, q => by
    unfold ab_ql at q
    rw [Bool.and_eq_true] at q
    rw [h a b q.1, ab_ql_ok h q.2]
  | [], _ :: _, q => by cases q
  | _ :: _, [], q => by cases q
theorem ab_q3_ok (a b : Int × Nat × Nat) (q : ab_q3 a b = true) : a = b := by
  unfold ab_q3 at q
  simp only [Bool.and_eq_true] at q
  obtain ⟨a1, a2, a3⟩ := a
  obtain ⟨b1, b2, b3⟩ := b
  have e1 : a1 = b1 := ae_ie_ok q.1.1
  have e2 : a2 = b2 := Nat.eq_of_beq_eq_true q.1.2
  have e3 : a3 = b3 := Nat.eq_of_beq_eq_true q.2
  rw [e1, e2, e3]
theorem ab_qg_ok (a b : ab_Gd) (q : ab_qg a b = true) : a = b := by
  unfold ab_qg at q
  simp only [Bool.and_eq_true] at q
  obtain ⟨a1, a2, a3⟩ := a
  obtain ⟨b1, b2, b3⟩ := b
  have e1 : a1 = b1 := ae_ie_ok q.1.1
  have e2 : a2 = b2 := ae_ie_ok q.1.2
  have e3 : a3 = b3 := ab_ql_ok ab_q3_ok q.2
  rw [e1, e2, e3]
theorem ab_qt_ok (a b : ab_Ti) (q : ab_qt a b = true) : a = b := by
  unfold ab_qt at q
  simp only [Bool.and_eq_true] at q
  obtain ⟨a1, a2, a3, ⟨a4, a5⟩, a6⟩ := a
  obtain ⟨b1, b2, b3, ⟨b4, b5⟩, b6⟩ := b
  obtain ⟨⟨⟨⟨⟨q1, q2⟩, q3⟩, q4⟩, q5⟩, q6⟩ := q
  have e1 : a1 = b1 := Nat.eq_of_beq_eq_true q1
  have e2 : a2 = b2 := Nat.eq_of_beq_eq_true q2
  have e3 : a3 = b3 := Nat.eq_of_beq_eq_true q3
  have e4 : a4 = b4 := ae_ie_ok q4
  have e5 : a5 = b5 := ab_ql_ok ab_q3_ok q5
  have e6 : a6 = b6 := ab_ql_ok ab_qg_ok q6
  rw [e1, e2, e3, e4, e5, e6]
def ab_ric (k : ae_K) (M O : List ae_M) (w : ae_Mo) (T T' : List ab_Ti) : Bool := bif ab_ql ab_qt T T' then T'.all fun t => (List.range t.2.2.1).all (ab_r1 k M O w true t)
  else T'.all fun t => (List.range t.2.2.1).all (ab_r1 k M O w (T.any fun u => ab_qt u t) t)
section ABC
variable {L : Nat} {xs : Nat → Int32} {ρ : Nat → Int} {k : ae_K} {M O : List ae_M} {h0 h : List am_E} {w : ae_Mo} {T T' : List ab_Ti}
theorem ab_cv_fr (hF : ae_fr w L xs h0 h) {p j : Nat} (q : ae_inm w p j = false) : ab_cv L xs h p j = ab_cv L xs h0 p j := by
  unfold ab_cv
  rw [hF p j q]
theorem ab_cur_ok (hK : ae_okK ρ k) (hM : ∀ m ∈ M, ae_eo k.1 ρ L xs h m) (hF : ae_fr w L xs h0 h) (hO : ∀ m ∈ O, ae_eo k.1 ρ L xs h0 m) {p j : Nat} {x : ae_X} (q : ab_cur k M O w p j = some x) : ae_dn k.1 ρ x (ab_cv L xs h p j) := by
  unfold ab_cur at q
  split at q
  · rename_i y hy
    cases q
    exact ab_ov_ok hK hM (ae_num_dn _) hy
  · cases hb : ae_inm w p j with
    | true => rw [hb] at q; cases q
    | false =>
      rw [hb] at q
      rw [ab_cv_fr hF hb]
      exact ab_ov_ok hK hO (ae_num_dn _) q
theorem ab_cs_ok (hK : ae_okK ρ k) (hM : ∀ m ∈ M, ae_eo k.1 ρ L xs h m) (hF : ae_fr w L xs h0 h) (hO : ∀ m ∈ O, ae_eo k.1 ρ L xs h0 m) {i : Nat} : ∀ {l : List (Int × Nat × Nat)} {y : ae_X}, ab_cs k M O w i l = some y → ae_dn k.1 ρ y (ab_sum (ab_cv L xs h) i l)
  | [], y, q => by cases q; exact ae_num_dn 0
  | t :: r, y, q => by
    obtain ⟨x, h1, q⟩ := Option.bind_eq_some_iff.mp q
    obtain ⟨y', h2, q⟩ := Option.bind_eq_some_iff.mp q
    cases q
    exact ae_add_dn (ae_scl_dn (ab_cur_ok hK hM hF hO h1) t.1) (ab_cs_ok hK hM hF hO h2)
theorem ab_utl_ok (hF : ae_fr w L xs h0 h) {i : Nat} {l : List (Int × Nat × Nat)} (q : ab_utl w i l = true) : ab_sum (ab_cv L xs h) i l = ab_sum (ab_cv L xs h0) i l := by
  refine ab_sum_eq (fun t ht => ab_cv_fr hF ?_)
  have := List.all_eq_true.mp q t ht
  simpa using this
theorem ab_df_ok (hK : ae_okK ρ k) (hM : ∀ m ∈ M, ae_eo k.1 ρ L xs h m) (hF : ae_fr w L xs h0 h) (hO : ∀ m ∈ O, ae_eo k.1 ρ L xs h0 m) : ∀ {l : List (Int × Nat × Nat)} {y : ae_X}, ab_df k M O w l = some y → ae_dn k.1 ρ y (ab_sum (ab_cv L xs h) 0 l - ab_sum (ab_cv L xs h0) 0 l)
  | [], y, q => by cases q; exact ae_num_dn 0
  | t :: r, y, q => by
    obtain ⟨y', h1, q⟩ := Option.bind_eq_some_iff.mp q
    have ih := ab_df_ok hK hM hF hO h1
    cases hb : ae_inm w t.2.1 (t.2.2 + 0) with
    | true =>
      rw [hb] at q
      obtain ⟨x, h2, q⟩ := Option.bind_eq_some_iff.mp q
      obtain ⟨o, h3, q⟩ := Option.bind_eq_some_iff.mp q
      cases q
      have d := ae_add_dn (ae_scl_dn (ae_sub_dn (ab_ov_ok hK hM (ae_num_dn _) h2) (ab_ov_ok hK hO (ae_num_dn _) h3)) t.1) ih
      refine ⟨d.1, d.2.trans ?_⟩
      show _ = (t.1 * ab_cv L xs h t.2.1 (t.2.2 + 0) + ab_sum (ab_cv L xs h) 0 r) - (t.1 * ab_cv L xs h0 t.2.1 (t.2.2 + 0) + ab_sum (ab_cv L xs h0) 0 r)
      rw [Int.mul_sub]
      omega
    | false =>
      rw [hb] at q
      cases q
      have e : ab_cv L xs h t.2.1 (t.2.2 + 0) = ab_cv L xs h0 t.2.1 (t.2.2 + 0) := ab_cv_fr hF hb
      refine ⟨ih.1, ih.2.trans ?_⟩
      show _ = (t.1 * ab_cv L xs h t.2.1 (t.2.2 + 0) + ab_sum (ab_cv L xs h) 0 r) - (t.1 * ab_cv L xs h0 t.2.1 (t.2.2 + 0) + ab_sum (ab_cv L xs h0) 0 r)
      rw [e]
      omega
theorem ab_r1_ok (hK : ae_okK ρ k) (hM : ∀ m ∈ M, ae_eo k.1 ρ L xs h m) (hF : ae_fr w L xs h0 h) (hO : ∀ m ∈ O, ae_eo k.1 ρ L xs h0 m) {s : Bool} {t : ab_Ti} {i : Nat} (hs : s = true → ab_hold (ab_cv L xs h0) t i) (q : ab_r1 k M O w s t i = true) : ab_hold (ab_cv L xs h) t i := by
  unfold ab_r1 at q
  rcases Bool.or_eq_true_iff.mp q with q | q
  · rcases Bool.or_eq_true_iff.mp q with q | q
    · simp only [Bool.and_eq_true] at q
      obtain ⟨⟨⟨q1, q2⟩, q3⟩, q4⟩ := q
      rcases hs q1 with ⟨g, hg, g1⟩ | g1
      · refine Or.inl ⟨g, hg, ?_⟩
        rcases Bool.or_eq_true_iff.mp (List.all_eq_true.mp q4 g hg) with q5 | q5
        rcases Bool.or_eq_true_iff.mp q5 with q5 | q5
        · unfold ab_gd at g1 ⊢
          rw [ab_utl_ok hF q5]
          exact g1
        · unfold ab_gm at q5
          split at q5
          · rename_i e he
            have d := ab_df_ok hK hM hF hO he
            have z := ae_z_ok hK q5
            rw [d.2] at z
            unfold ab_gd at g1 ⊢
            omega
          · cases q5
        · exact absurd g1 (ab_gf_ok hK hO (ae_num_dn _) q5)
      · refine Or.inr ?_
        rw [ab_cv_fr hF (by simpa using q2), ab_utl_ok hF q3]
        exact g1
    · obtain ⟨g, hg, q⟩ := List.any_eq_true.mp q
      refine Or.inl ⟨g, hg, ?_⟩
      unfold ab_gn at q
      split at q
      · rename_i y hy
        have d := ab_cs_ok hK hM hF hO hy
        have z := ae_z_ok hK q
        rw [ae_pls_ev, d.2] at z
        unfold ab_gd
        omega
      · cases q
  · refine Or.inr ?_
    unfold ab_en at q
    split at q
    · rename_i x hx
      split at q
      · rename_i y hy
        have d1 := ab_cur_ok hK hM hF hO hx
        have d2 := ab_cs_ok hK hM hF hO hy
        have r := ae_rg_ok hK q
        rw [ae_sub_ev, d1.2, d2.2] at r
        omega
      · cases q
    · cases q
theorem ab_ric_ok (hK : ae_okK ρ k) (hM : ∀ m ∈ M, ae_eo k.1 ρ L xs h m) (hT : ab_RI T (ab_cv L xs h0)) (hF : ae_fr w L xs h0 h) (hO : ∀ m ∈ O, ae_eo k.1 ρ L xs h0 m) (q : ab_ric k M O w T T' = true) : ab_RI T' (ab_cv L xs h) := by
  intro t ht i hi
  unfold ab_ric at q
  cases hb : ab_ql ab_qt T T' with
  | true =>
    rw [hb] at q
    have e := ab_ql_ok ab_qt_ok hb
    exact ab_r1_ok hK hM hF hO (fun _ => hT t (by rw [e]; exact ht) i hi) (List.all_eq_true.mp (List.all_eq_true.mp q t ht) i (List.mem_range.mpr hi))
  | false =>
    rw [hb] at q
    refine ab_r1_ok hK hM hF hO (fun hs => ?_) (List.all_eq_true.mp (List.all_eq_true.mp q t ht) i (List.mem_range.mpr hi))
    obtain ⟨u, hu, e⟩ := List.any_eq_true.mp hs
    have e := ab_qt_ok _ _ e
    subst e
    exact hT u hu i hi
end ABC

/-! Reading and writing fields and rows -/
noncomputable def ae_isO (p a b : Nat) : Bool := Nat.blt 0 p && Nat.ble p ae_np && Nat.beq (ae_sh p).1 0 && Nat.beq (ae_sh p).2.1 a && Nat.blt b (ae_sh p).2.2
noncomputable def ae_isA (p t : Nat) : Bool := Nat.blt 0 p && Nat.ble p ae_np && Nat.beq (ae_sh p).1 1 && Nat.beq (ae_sh p).2.1 t
theorem ae_obj {h : List am_E} (hs : ae_shp h) {p a b : Nat} (q : ae_isO p a b = true) : ∃ i fs, p = i + 1 ∧ i < ae_np ∧ h[i]? = some (.inr (a, fs)) ∧ b < fs.length ∧ fs.length = (ae_sh p).2.2 ∧ am_ob h p a = some fs := by
  unfold ae_isO at q
  simp only [Bool.and_eq_true] at q
  obtain ⟨⟨⟨⟨q1, q2⟩, q3⟩, q4⟩, q5⟩ := q
  cases p with
  | zero => cases q1
  | succ i =>
    obtain ⟨e, h1, h2⟩ := hs.2 i (Nat.le_of_ble_eq_true q2)
    have q3 := Nat.eq_of_beq_eq_true q3
    cases e with
    | inl x =>
      have h3 : (ae_sh (i + 1)).1 = 1 := h2.1
      rw [q3] at h3
      cases h3
    | inr o =>
      obtain ⟨c, fs⟩ := o
      have h4 : c = (ae_sh (i + 1)).2.1 := h2.2.1
      have h5 : fs.length = (ae_sh (i + 1)).2.2 := h2.2.2
      rw [Nat.eq_of_beq_eq_true q4] at h4
      subst h4
      refine ⟨i, fs, rfl, Nat.le_of_ble_eq_true q2, h1, by rw [h5]; exact Nat.blt_eq.mp q5, h5, ?_⟩
      show (match h[i]? with
        | some (.inr (c', fs)) => am_if (Nat.beq c' c) (some fs)
        | _ => none) = some fs
      rw [h1]
      show am_if (Nat.beq c c) (some fs) = some fs
      rw [Nat.beq_refl]; rfl
theorem ae_arr {h : List am_E} (hs : ae_shp h) {p t : Nat} (q : ae_isA p t = true) : ∃ i c, p = i + 1 ∧ i < ae_np ∧ h[i]? = some (.inl (t, (ae_sh p).2.2, c)) ∧ (t < 2 → ∃ f, c = .inl f) ∧ (t = 2 → ∃ f, c = .inr (.inl f)) ∧ (3 ≤ t → ∃ f, c = .inr (.inr (.inr (.inr f)))) := by
  unfold ae_isA at q
  simp only [Bool.and_eq_true] at q
  obtain ⟨⟨⟨q1, q2⟩, q3⟩, q4⟩ := q
  cases p with
  | zero => cases q1
  | succ i =>
    obtain ⟨e, h1, h2⟩ := hs.2 i (Nat.le_of_ble_eq_true q2)
    have q3 := Nat.eq_of_beq_eq_true q3
    cases e with
    | inr o =>
      have h3 : (ae_sh (i + 1)).1 = 0 := h2.1
      rw [q3] at h3
      cases h3
    | inl x =>
      obtain ⟨t', n, c⟩ := x
      have h4 : t' = (ae_sh (i + 1)).2.1 := h2.2.1
      have h5 : n = (ae_sh (i + 1)).2.2 := h2.2.2.1
      rw [Nat.eq_of_beq_eq_true q4] at h4
      subst h4; subst h5
      exact ⟨i, c, rfl, Nat.le_of_ble_eq_true q2, h1, h2.2.2.2⟩
theorem ae_clamp {x : Int32} (h : 0 ≤ x.toInt) : ((x.toNatClampNeg : Nat) : Int) = x.toInt := by
  show ((x.toInt.toNat : Nat) : Int) = x.toInt
  omega
theorem ae_in_ok {x : Int32} {n : Nat} (h : 0 ≤ x.toInt) (h2 : x.toInt < (n : Int)) : am_in x n = true := by
  unfold am_in
  have h3 := ae_clamp h
  have h4 : ¬ x < 0 := by
    rw [Int32.lt_iff_toInt_lt]
    have z : (0 : Int32).toInt = 0 := rfl
    omega
  rw [decide_eq_false h4, Nat.blt_eq.mpr (by omega)]
  rfl
/-- an index that surely lies in a row -/
noncomputable def ae_ib (k : ae_K) (p : Nat) (e : ae_X) : Bool := ae_z k (ae_neg e 0) && (bif Nat.beq p 0 then ae_z k (ae_pls (ae_sub e (ae_sym 0)) 1) else ae_z k (ae_pls e (1 - ((ae_sh p).2.2 : Int))))
noncomputable def ae_ln (L p : Nat) : Nat := bif Nat.beq p 0 then L else (ae_sh p).2.2
theorem ae_ib_ok {ρ : Nat → Int} {L : Nat} {k : ae_K} (hK : ae_okK ρ k) (h0 : ae_k0 ρ L k) {p n : Nat} {e : ae_X} {x : Int32} (hd : ae_dn n ρ e x.toInt) (q : ae_ib k p e = true) : 0 ≤ x.toInt ∧ x.toNatClampNeg < ae_ln L p ∧ am_in x (ae_ln L p) = true := by
  unfold ae_ib at q
  rw [Bool.and_eq_true] at q
  have h1 := ae_z_ok hK q.1
  rw [ae_neg_ev, hd.2] at h1
  have h2 : x.toInt < (ae_ln L p : Int) := by
    unfold ae_ln
    have q2 := q.2
    cases hb : Nat.beq p 0 with
    | true =>
      rw [hb] at q2
      have h3 := ae_z_ok hK q2
      rw [ae_pls_ev, ae_sub_ev, hd.2] at h3
      have h4 : ae_ev ρ (ae_sym 0) = ρ 0 := by show (0 : Int) + (1 * ρ 0 + 0) = ρ 0; omega
      rw [h4, h0.2] at h3
      show x.toInt < (L : Int)
      omega
    | false =>
      rw [hb] at q2
      have h3 := ae_z_ok hK q2
      rw [ae_pls_ev, hd.2] at h3
      show x.toInt < ((ae_sh p).2.2 : Int)
      omega
  have h5 := ae_clamp (x := x) (by omega)
  exact ⟨by omega, by omega, ae_in_ok (by omega) h2⟩
/-- the entries of a cell that became another one -/
theorem ae_set_ok {L : Nat} {xs : Nat → Int32} {h : List am_E} (hs : ae_shp h) {i jj : Nat} {e0 e : am_E} {v : Value} (hi : i < ae_np) (h0 : h[i]? = some e0) (hf : ∀ s, ae_f1 s e0 → ae_f1 s e) (hz : am_sz e0 = am_sz e) (hc : ∀ j, j ≠ jj → ae_ec e j = ae_ec e0 j) (hv : ae_ec e jj = some v) : am_app h (some (some i, e)) = some (h.set i e) ∧ ae_wr L xs h (h.set i e) (i + 1) jj v := by
  have hl := (List.getElem?_eq_some_iff.mp h0).1
  refine ⟨?_, ⟨?_, fun k hk => ?_⟩, ?_, fun q j hq => ?_⟩
  · show (h[i]?.bind fun e0 => bif Nat.beq (am_sz e0) (am_sz e) then some (h.set i e) else none) = _
    rw [h0]
    show (bif Nat.beq (am_sz e0) (am_sz e) then some (h.set i e) else none) = _
    rw [hz, Nat.beq_refl]; rfl
  · rw [List.length_set]; exact hs.1
  · obtain ⟨e1, g1, g2⟩ := hs.2 k hk
    by_cases hki : i = k
    · subst hki
      rw [h0] at g1
      cases g1
      exact ⟨e, List.getElem?_set_self hl, hf _ g2⟩
    · exact ⟨e1, by rw [List.getElem?_set_ne hki]; exact g1, g2⟩
  · show ((h.set i e)[i]?.bind fun e => ae_ec e jj) = some v
    rw [List.getElem?_set_self hl]
    exact hv
  · cases q with
    | zero => rfl
    | succ q =>
      show ((h.set i e)[q]?.bind fun e => ae_ec e j) = (h[q]?.bind fun e => ae_ec e j)
      by_cases hqi : i = q
      · subst hqi
        rw [List.getElem?_set_self hl, h0]
        exact hc j (fun hj => hq ⟨rfl, hj⟩)
      · rw [List.getElem?_set_ne hqi]
theorem ae_set_o {L : Nat} {xs : Nat → Int32} {h : List am_E} (hs : ae_shp h) {i a b : Nat} {fs : List Value} (hi : i < ae_np) (h0 : h[i]? = some (.inr (a, fs))) (hb : b < fs.length) (v : Value) : am_app h (some (some i, .inr (a, fs.set b v))) = some (h.set i (.inr (a, fs.set b v))) ∧ ae_wr L xs h (h.set i (.inr (a, fs.set b v))) (i + 1) b v :=
  ae_set_ok hs hi h0 (fun s g => ⟨g.1, g.2.1, by show (fs.set b v).length = _; rw [List.length_set]; exact g.2.2⟩) (by show fs.length = (fs.set b v).length; rw [List.length_set]) (fun j hj => by show (fs.set b v)[j]? = fs[j]?; rw [List.getElem?_set_ne (fun q => hj q.symm)]) (by show (fs.set b v)[b]? = some v; rw [List.getElem?_set_self hb])
theorem ae_set_i {L : Nat} {xs : Nat → Int32} {h : List am_E} (hs : ae_shp h) {i t n j : Nat} {f : Nat → Int32} (hi : i < ae_np) (h0 : h[i]? = some (.inl (t, n, .inl f))) (hj : j < n) (x : Int32) : am_app h (some (some i, .inl (t, n, .inl (upd f j x)))) = some (h.set i (.inl (t, n, .inl (upd f j x)))) ∧ ae_wr L xs h (h.set i (.inl (t, n, .inl (upd f j x)))) (i + 1) j (.int x) :=
  ae_set_ok hs hi h0 (fun s g => ⟨g.1, g.2.1, g.2.2.1, fun _ => ⟨_, rfl⟩, fun ht => (by
    obtain ⟨f', hf'⟩ := g.2.2.2.2.1 ht
    cases hf'), fun ht => (by
    obtain ⟨f', hf'⟩ := g.2.2.2.2.2 ht
    cases hf')⟩) rfl (fun j' hj' => by show (bif Nat.blt j' n then some (Value.int (upd f j x j')) else none) = (bif Nat.blt j' n then some (Value.int (f j')) else none); rw [show upd f j x j' = f j' from if_neg hj']) (by show (bif Nat.blt j n then some (Value.int (upd f j x j)) else none) = some (.int x); rw [Nat.blt_eq.mpr hj, show upd f j x j = x from if_pos rfl]; rfl)
theorem ae_set_l {L : Nat} {xs : Nat → Int32} {h : List am_E} (hs : ae_shp h) {i t n j : Nat} {f : Nat → Int64} (hi : i < ae_np) (h0 : h[i]? = some (.inl (t, n, .inr (.inl f)))) (hj : j < n) (x : Int64) : am_app h (some (some i, .inl (t, n, .inr (.inl (vp_updL f j x))))) = some (h.set i (.inl (t, n, .inr (.inl (vp_updL f j x))))) ∧ ae_wr L xs h (h.set i (.inl (t, n, .inr (.inl (vp_updL f j x))))) (i + 1) j (.long x) :=
  ae_set_ok hs hi h0 (fun s g => ⟨g.1, g.2.1, g.2.2.1, fun ht => (by
    obtain ⟨f', hf'⟩ := g.2.2.2.1 ht
    cases hf'), fun _ => ⟨_, rfl⟩, fun ht => (by
    obtain ⟨f', hf'⟩ := g.2.2.2.2.2 ht
    cases hf')⟩) rfl (fun j' hj' => by show (bif Nat.blt j' n then some (Value.long (vp_updL f j x j')) else none) = (bif Nat.blt j' n then some (Value.long (f j')) else none); rw [show vp_updL f j x j' = f j' from if_neg hj']) (by show (bif Nat.blt j n then some (Value.long (vp_updL f j x j)) else none) = some (.long x); rw [Nat.blt_eq.mpr hj, show vp_updL f j x j = x from if_pos rfl]; rfl)
/-- a reading, and what its clauses say -/
noncomputable def ae_rd (ex : Bool) (pc : Nat) (k : ae_K) (M : List ae_M) (lv : ae_L) (p : Nat) (e : ae_X) (r : List ae_V) : Option (List ae_R) :=
  (ae_ld ex k M p e).bind fun q => some ((ae_fks ex q.1 q.2.1 p e).map fun k' => (pc, k', q.2.1, lv, q.2.2 :: r))
section AEA
variable {ex : Bool} {mo : ae_Mo} {ρ : Nat → Int} {L : Nat} {xs : Nat → Int32} {k k' : ae_K} {M : List ae_M} {lv : ae_L} {r : List ae_V} {lw : am_L} {sw : List Value} {h : List am_E} {pc : Nat}
theorem ae_rd_ok (hr : ae_rok = true) (hf : ae_fok = true) {o : List ae_R} {p j : Nat} {e : ae_X} {v : Value} (H : ae_mm ex ρ L xs k M lv r lw sw h) (hd : ae_dn k.1 ρ e (j : Int)) (hc : ae_cell L xs h p j = some v) (hpj : 0 < p → p ≤ ae_np ∧ j < (ae_sh p).2.2) (q : ae_rd ex pc k M lv p e r = some o) : ae_G ex mo ρ L xs k o (some (pc, lw, v :: sw, none)) h := by
  obtain ⟨⟨k1, M1, a1⟩, h1, q⟩ := Option.bind_eq_some_iff.mp q
  cases q
  obtain ⟨ρ1, u1, H1, g1⟩ := ae_ld_ok hr H.1 H.2.2.1 hd hc hpj h1
  obtain ⟨k2, m2, K2, n2⟩ := ae_fks_ok hf (ae_dn_ext u1.1 u1.2.1 hd) u1.2.2 H1
  have n2 : k2.1 = k1.1 := n2
  have u2 : ae_up2 ρ k ρ1 k2 := ⟨by rw [n2]; exact u1.1, u1.2.1, K2⟩
  exact ⟨_, h, rfl, rfl, ae_fr_rf _ _ _ _, _, List.mem_map.mpr ⟨k2, m2, rfl⟩, rfl, ρ1, u2, K2, ae_k0_up H.2.1 u2, by show ae_hp ex k2.1 ρ1 L xs M1 h; rw [n2]; exact H1, ae_lr_ext u2.1 u2.2.1 H.2.2.2.1, by show ae_ok k2.1 ρ1 a1 v; rw [n2]; exact g1, ae_sr_ext u2.1 u2.2.1 H.2.2.2.2⟩
/-- a writing -/
noncomputable def ae_wt2 (ex : Bool) (mo : ae_Mo) (pc : Nat) (k : ae_K) (M : List ae_M) (lv : ae_L) (p : Nat) (e : ae_X) (a : ae_V) (r : List ae_V) : Option (List ae_R) :=
  (ae_st ex mo k M p e a).bind fun o => some (o.map fun q => (pc, q.1, q.2, lv, r))
theorem ae_wt2_ok (hr : ae_rok = true) (hf : ae_fok = true) {o : List ae_R} {p j : Nat} {e : ae_X} {a : ae_V} {v : Value} {h1 : List am_E} {ef : am_Ef} (H : ae_mm ex ρ L xs k M lv r lw sw h) (hd : ae_dn k.1 ρ e (j : Int)) (hv : ae_ok k.1 ρ a v) (ha : am_app h ef = some h1) (hw : ae_wr L xs h h1 p j v) (q : ae_wt2 ex mo pc k M lv p e a r = some o) : ae_G ex mo ρ L xs k o (some (pc, lw, sw, ef)) h := by
  obtain ⟨o1, g1, q⟩ := Option.bind_eq_some_iff.mp q
  cases q
  obtain ⟨z, m1, ρ1, u1, H1, F1⟩ := ae_st_ok hr hf H.1 H.2.2.1 hd hw hv g1
  exact ⟨_, h1, rfl, ha, F1, _, List.mem_map.mpr ⟨z, m1, rfl⟩, rfl, ρ1, u1, u1.2.2, ae_k0_up H.2.1 u1, H1, ae_lr_ext u1.1 u1.2.1 H.2.2.2.1, ae_sr_ext u1.1 u1.2.1 H.2.2.2.2⟩
end AEA
/-- the same from a state with more symbols -/
theorem ae_G_up {ex : Bool} {mo : ae_Mo} {ρ ρ' : Nat → Int} {L : Nat} {xs : Nat → Int32} {k k' : ae_K} {o : List ae_R} {z : Option am_R4} {h : List am_E} (u : ae_up2 ρ k ρ' k') (g : ae_G ex mo ρ' L xs k' o z h) : ae_G ex mo ρ L xs k o z h := by
  obtain ⟨z, h1, e1, e2, e3, r, m, e4, ρ2, u2, H⟩ := g
  exact ⟨z, h1, e1, e2, e3, r, m, e4, ρ2, u.tr u2, H⟩
theorem ae_mm_up {ex : Bool} {ρ ρ' : Nat → Int} {L : Nat} {xs : Nat → Int32} {k k' : ae_K} {M : List ae_M} {lv : ae_L} {st : List ae_V} {lw : am_L} {sw : List Value} {h : List am_E} (u : ae_up2 ρ k ρ' k') (H : ae_mm ex ρ L xs k M lv st lw sw h) : ae_mm ex ρ' L xs k' M lv st lw sw h :=
  ⟨u.2.2, ae_k0_up H.2.1 u, ae_hp_ext u.1 u.2.1 H.2.2.1, ae_lr_ext u.1 u.2.1 H.2.2.2.1, ae_sr_ext u.1 u.2.1 H.2.2.2.2⟩

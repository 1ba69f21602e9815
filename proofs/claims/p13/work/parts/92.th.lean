/-! A step of one of two threads, on the mixed heap and on its own -/
theorem am_sys_eff {a pc : Nat} {lv : am_L} {st : List Value} {h : List am_E} {z : am_R4} {o : Option Nat} {e : am_E} (q : am_sys a pc lv st h = some z) (he : z.2.2.2 = some (o, e)) : ∃ k, o = some k ∧ Value.ref (k + 1) ∈ st := by
  unfold am_sys at q
  split at q
  · obtain ⟨r, h1, q⟩ := Option.bind_eq_some_iff.mp q
    cases q; cases he
  · obtain ⟨n, h0, q⟩ := Option.bind_eq_some_iff.mp q
    obtain ⟨dp, h1, q⟩ := Option.bind_eq_some_iff.mp q
    obtain ⟨b, h2, q⟩ := Option.bind_eq_some_iff.mp q
    obtain ⟨sp, h3, q⟩ := Option.bind_eq_some_iff.mp q
    obtain ⟨c, h4, q⟩ := Option.bind_eq_some_iff.mp q
    have m := am_pi_in h0 _ (am_pi_in h1 _ (am_pr_in h2).1)
    split at q
    · obtain ⟨g, h5, q⟩ := Option.bind_eq_some_iff.mp q
      obtain ⟨-, q⟩ := am_if_eq q
      cases q
      cases he
      obtain ⟨p, r⟩ := b
      cases p with
      | zero => cases h5
      | succ p => exact ⟨p, rfl, m⟩
    · obtain ⟨f, h6, q⟩ := Option.bind_eq_some_iff.mp q
      obtain ⟨g, h5, q⟩ := Option.bind_eq_some_iff.mp q
      obtain ⟨-, q⟩ := am_if_eq q
      cases q
      cases he
      obtain ⟨p, r⟩ := b
      cases p with
      | zero => cases h5
      | succ p => exact ⟨p, rfl, m⟩
  · obtain ⟨n, h0, q⟩ := Option.bind_eq_some_iff.mp q
    obtain ⟨r, h1, q⟩ := Option.bind_eq_some_iff.mp q
    cases q; cases he
  · obtain ⟨n, h0, q⟩ := Option.bind_eq_some_iff.mp q
    cases q; cases he
  · obtain ⟨n, h0, q⟩ := Option.bind_eq_some_iff.mp q
    obtain ⟨r, h1, q⟩ := Option.bind_eq_some_iff.mp q
    cases q; cases he
  · cases q
/-- the side of a thread: false the first heap's (places below b), true the other's -/
noncomputable def am_sd (b : Nat) (s : Bool) (p : Nat) : Bool := bif s then Nat.ble b p else Nat.blt p b
/-- one thread's heap beside the other's -/
noncomputable def am_mX2 (b : Nat) (s : Bool) (h h' : List am_E) : List am_E := bif s then am_mix b h' h else am_mix b h h'
theorem am_mx_at {b : Nat} {s : Bool} {h h' : List am_E} (e : h.length = h'.length) (hb : b ≤ h.length + 1) (h0 : 0 < b) {k : Nat} (hk : am_sd b s k = true) : am_at (am_mX2 b s h h') k = am_at h k := by
  cases s with
  | false => exact am_mix_lo e hb (Nat.blt_eq.mp hk)
  | true => exact am_mix_hi e.symm (by omega) h0 (Nat.le_of_ble_eq_true hk)
theorem am_mx_len {b : Nat} {s : Bool} {h h' : List am_E} (e : h.length = h'.length) : (am_mX2 b s h h').length = h.length := by
  cases s with
  | false => exact am_mix_len e
  | true => exact (am_mix_len e.symm).trans e.symm
theorem am_mx_app {b : Nat} {s : Bool} {h h' h2 : List am_E} {f : am_Ef} (el : h.length = h'.length) (hb : b ≤ h.length + 1) (h0 : 0 < b) (hf : ∀ o e, f = some (o, e) → ∃ k, o = some k ∧ am_sd b s (k + 1) = true) (q : am_app (am_mX2 b s h h') f = some h2) : ∃ h1, am_app h f = some h1 ∧ h2 = am_mX2 b s h1 h' ∧ h1.length = h.length := by
  cases f with
  | none => cases q; exact ⟨h, rfl, rfl, rfl⟩
  | some f =>
    obtain ⟨o, e⟩ := f
    obtain ⟨k, rfl, hk⟩ := hf o e rfl
    cases s with
    | false => exact am_app_lo el hb (Nat.blt_eq.mp hk) q
    | true => exact am_app_hi el.symm (by omega) h0 (Nat.le_of_ble_eq_true hk) q
theorem am_th1 {b : Nat} {s : Bool} {L : Nat} {xs : Nat → Int32} {own : Nat} {ini : Bool} {nL : Nat} {i : Instr} {a b' pc : Nat} {lv : am_L} {st : List Value} {h h' h2 : List am_E} {z : am_R4} (el : h.length = h'.length) (hb : b ≤ h.length + 1) (h0 : 0 < b) (hst : ∀ k, Value.ref k ∈ st → am_sd b s k = true) (hl : h2.length = h.length)
    (q : am_simple L xs own ini nL i a b' pc lv st (am_mX2 b s h h') = some z) (g : am_app (am_mX2 b s h h') z.2.2.2 = some h2) : am_simple L xs own ini nL i a b' pc lv st h = some z ∧ ∃ h1, am_app h z.2.2.2 = some h1 ∧ h2 = am_mX2 b s h1 h' ∧ h1.length = h.length := by
  have e := am_simple_loc (L := L) (xs := xs) (own := own) (ini := ini) (nL := nL) (i := i) (a := a) (b := b') (pc := pc) (lv := lv) (st := st) (h := am_mX2 b s h h') (h' := h) (am_mx_len el) (fun k hk => am_mx_at el hb h0 (hst k hk))
  refine ⟨by rw [← e]; exact q, am_mx_app el hb h0 (fun o u ho => ?_) g⟩
  cases o with
  | none =>
    rw [ho] at g
    cases g
    rw [List.length_append, am_mx_len el] at hl
    exact absurd hl (by show ¬ h.length + 1 = h.length; omega)
  | some k => exact ⟨k, rfl, hst _ (am_simple_eff q ho)⟩
theorem am_th2 {b : Nat} {s : Bool} {a pc : Nat} {lv : am_L} {st : List Value} {h h' h2 : List am_E} {z : am_R4} (el : h.length = h'.length) (hb : b ≤ h.length + 1) (h0 : 0 < b) (hst : ∀ k, Value.ref k ∈ st → am_sd b s k = true)
    (q : am_sys a pc lv st (am_mX2 b s h h') = some z) (g : am_app (am_mX2 b s h h') z.2.2.2 = some h2) : am_sys a pc lv st h = some z ∧ ∃ h1, am_app h z.2.2.2 = some h1 ∧ h2 = am_mX2 b s h1 h' ∧ h1.length = h.length := by
  have e := am_sys_loc (a := a) (pc := pc) (lv := lv) (st := st) (h := am_mX2 b s h h') (h' := h) (fun k hk => am_mx_at el hb h0 (hst k hk))
  refine ⟨by rw [← e]; exact q, am_mx_app el hb h0 (fun o u ho => ?_) g⟩
  obtain ⟨k, rfl, hk⟩ := am_sys_eff q ho
  exact ⟨k, rfl, hst _ hk⟩

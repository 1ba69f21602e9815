/-! Two threads over one heap: the class's below place 219, the reference's from there on -/
abbrev ap_F : Type := Nat × Nat × Nat × ae_L × List ae_V
abbrev ap_T : Type := List ap_F × Option ae_V
abbrev ap_cT : Type := List am_Fr × Option Value
noncomputable def ap_b : Nat := 219
noncomputable def ap_run (L : Nat) (xs : Nat → Int32) (g : ap_cT) (h : List am_E) (x : Option Value × List am_E) : Prop := match g.1 with
  | [] => x = (g.2, h)
  | f :: r => am_fn L xs f r h x
noncomputable def ap_f1 (n : Nat) (ρ : Nat → Int) (f : ap_F) (g : am_Fr) : Prop := f.1 ≤ g.1 ∧ f.2.1 = g.2.1 ∧ f.2.2.1 = g.2.2.1 ∧ ae_lr n ρ f.2.2.2.1 g.2.2.2.1 ∧ ae_sr n ρ f.2.2.2.2 g.2.2.2.2
noncomputable def ap_ff (n : Nat) (ρ : Nat → Int) : List ap_F → List am_Fr → Prop
  | [], [] => True
  | f :: r, g :: s => ap_f1 n ρ f g ∧ ap_ff n ρ r s
  | _, _ => False
noncomputable def ap_tt (n : Nat) (ρ : Nat → Int) (t : ap_T) (g : ap_cT) : Prop := ap_ff n ρ t.1 g.1 ∧ (t.1 = [] → ae_ro n ρ t.2 g.2)
theorem ap_ff_ext {n m : Nat} {ρ ρ' : Nat → Int} (hn : n ≤ m) (a : ae_ag n ρ ρ') : ∀ {t : List ap_F} {g : List am_Fr}, ap_ff n ρ t g → ap_ff m ρ' t g
  | [], [], _ => trivial
  | _ :: _, _ :: _, q => ⟨⟨q.1.1, q.1.2.1, q.1.2.2.1, ae_lr_ext hn a q.1.2.2.2.1, ae_sr_ext hn a q.1.2.2.2.2⟩, ap_ff_ext hn a q.2⟩
  | [], _ :: _, q => absurd q id
  | _ :: _, [], q => absurd q id
theorem ap_ro_ext {n m : Nat} {ρ ρ' : Nat → Int} (hn : n ≤ m) (a : ae_ag n ρ ρ') {v : Option ae_V} {r : Option Value} (q : ae_ro n ρ v r) : ae_ro m ρ' v r := by
  cases v with
  | none => exact q
  | some v => obtain ⟨w, h1, h2⟩ := q; exact ⟨w, h1, ae_ok_ext hn a h2⟩
theorem ap_tt_ext {n m : Nat} {ρ ρ' : Nat → Int} (hn : n ≤ m) (a : ae_ag n ρ ρ') {t : ap_T} {g : ap_cT} (q : ap_tt n ρ t g) : ap_tt m ρ' t g := ⟨ap_ff_ext hn a q.1, fun e => ap_ro_ext hn a (q.2 e)⟩
theorem ap_sd_not (b : Nat) (s : Bool) (p : Nat) : am_sd b (!s) p = !(am_sd b s p) := by
  have h : Nat.ble b p = !(Nat.blt p b) := by
    cases h1 : Nat.ble b p with
    | true =>
      have := Nat.le_of_ble_eq_true h1
      cases h2 : Nat.blt p b with
      | true => have := Nat.blt_eq.mp h2; omega
      | false => rfl
    | false =>
      have : ¬ b ≤ p := fun q => by rw [Nat.ble_eq_true_of_le q] at h1; cases h1
      rw [Nat.blt_eq.mpr (by omega)]; rfl
  cases s with
  | false => exact h
  | true =>
    show Nat.blt p b = !(Nat.ble b p)
    rw [h, Bool.not_not]
theorem ap_mX_not (b : Nat) (s : Bool) (h h' : List am_E) : am_mX2 b s h h' = am_mX2 b (!s) h' h := by cases s <;> rfl
section APA
variable {L : Nat} {xs : Nat → Int32} {s : Bool} {ho hx h h' : List am_E}
theorem ap_cell_at {p j : Nat} (e : am_at h p = am_at h' p) : ae_cell L xs h p j = ae_cell L xs h' p j := by
  cases p with
  | zero => rfl
  | succ k =>
    have e : h[k]? = h'[k]? := e
    show h[k]?.bind _ = h'[k]?.bind _
    rw [e]
theorem ap_at (e1 : ho.length = ae_np) (e2 : hx.length = ae_np) {p : Nat} (q : am_sd ap_b s p = true) : am_at (am_mX2 ap_b s ho hx) p = am_at ho p := am_mx_at (by omega) (by rw [e1]; decide) (by decide) q
theorem ap_atx (e1 : ho.length = ae_np) (e2 : hx.length = ae_np) {p : Nat} (q : am_sd ap_b s p = false) : am_at (am_mX2 ap_b s ho hx) p = am_at hx p := by
  rw [ap_mX_not]
  exact ap_at e2 e1 (by rw [ap_sd_not, q]; rfl)
theorem ap_c (e1 : ho.length = ae_np) (e2 : hx.length = ae_np) {p j : Nat} (q : am_sd ap_b s p = true) : ae_cell L xs (am_mX2 ap_b s ho hx) p j = ae_cell L xs ho p j := ap_cell_at (ap_at e1 e2 q)
theorem ap_cx (e1 : ho.length = ae_np) (e2 : hx.length = ae_np) {p j : Nat} (q : am_sd ap_b s p = false) : ae_cell L xs (am_mX2 ap_b s ho hx) p j = ae_cell L xs hx p j := ap_cell_at (ap_atx e1 e2 q)
/-- the other side is as it was -/
noncomputable def ap_sm (L : Nat) (xs : Nat → Int32) (s : Bool) (h h' : List am_E) : Prop := ∀ p j, am_sd ap_b s p = false → ae_cell L xs h' p j = ae_cell L xs h p j
/-- a thread's own heap: on the other side all is as it always is, but for what is left out -/
noncomputable def ap_hx (ex : Bool) (L : Nat) (xs : Nat → Int32) (s : Bool) (h : List am_E) : Prop :=
  ae_shp h ∧ (∀ p j v, 0 < p → am_sd ap_b s p = false → ae_cell L xs h p j = some v → ae_io (ae_iv p j) v ∨ (ex = true ∧ ae_ine p j = true)) ∧
  (∀ f ∈ ae_fam, am_sd ap_b s f.1 = false → ∀ i, i < f.2.2.2.1 → ae_cl L xs h f.1 (f.2.1 + f.2.2.1 * i) f.2.2.2.2.2 ∨ (ex = true ∧ f.2.2.2.2.1 = true))
abbrev ap_hs (L : Nat) (xs : Nat → Int32) (s : Bool) (h : List am_E) : Prop := ap_hx false L xs s h
theorem ap_hx_of {ex : Bool} (q : ap_hs L xs s h) : ap_hx ex L xs s h :=
  ⟨q.1, fun p j v hp hs hc => (q.2.1 p j v hp hs hc).imp id (fun g => absurd g.1 (by decide)), fun f hf hs i hi => (q.2.2 f hf hs i hi).imp id (fun g => absurd g.1 (by decide))⟩
theorem ap_hs_sm {ex : Bool} (q : ap_hx ex L xs s h) (m : ap_sm L xs s h h') (e : ae_shp h') : ap_hx ex L xs s h' := by
  refine ⟨e, fun p j v hp hs hc => q.2.1 p j v hp hs (by rw [← m p j hs]; exact hc), fun f hf hs i hi => (q.2.2 f hf hs i hi).imp (fun g => ?_) id⟩
  exact ae_cl_eq (fun o _ => m _ _ hs) g
theorem ap_sm_rf : ap_sm L xs s h h := fun _ _ _ => rfl
theorem ap_sm_tr {h'' : List am_E} (a : ap_sm L xs s h h') (b : ap_sm L xs s h' h'') : ap_sm L xs s h h'' := fun p j q => (b p j q).trans (a p j q)
theorem ap_shp_len (e : ae_shp h) : h.length = ae_np := e.1
/-- what is known of both, seen in a thread's own heap -/
theorem ap_own {ex : Bool} {n : Nat} {ρ : Nat → Int} {M : List ae_M} (H : ae_hp ex n ρ L xs M (am_mX2 ap_b s ho hx)) (O : ap_hx ex L xs s ho) (e2 : hx.length = ae_np) : ae_hp ex n ρ L xs (M.filter fun m => am_sd ap_b s m.1) ho := by
  have e1 := O.1.1
  have dy : ∀ p j, am_sd ap_b s p = true → ae_dy ρ M p j → ae_dy ρ (M.filter fun m => am_sd ap_b s m.1) p j := by
    intro p j hs ⟨m, m1, m2, m3, m4⟩
    exact ⟨m, List.mem_filter.mpr ⟨m1, by rw [m3]; exact hs⟩, m2, m3, m4⟩
  refine ⟨O.1, fun m hm => ?_, fun p j v hp hc => ?_, fun f hf i hi => ?_⟩
  · obtain ⟨m1, m2⟩ := List.mem_filter.mp hm
    obtain ⟨j, v, g1, g2, g3⟩ := H.2.1 m m1
    exact ⟨j, v, g1, by rw [ap_c e1 e2 m2] at g2; exact g2, g3⟩
  · cases hs : am_sd ap_b s p with
    | true =>
      rcases H.2.2.1 p j v hp (by rw [ap_c e1 e2 hs]; exact hc) with g | g | g
      · exact Or.inl g
      · exact Or.inr (Or.inl (dy p j hs g))
      · exact Or.inr (Or.inr g)
    | false => exact (O.2.1 p j v hp hs hc).imp id Or.inr
  · cases hs : am_sd ap_b s f.1 with
    | true =>
      rcases H.2.2.2 f hf i hi with g | ⟨o, ho', g⟩ | g
      · exact Or.inl (ae_cl_eq (fun o _ => (ap_c e1 e2 hs).symm) g)
      · exact Or.inr (Or.inl ⟨o, ho', dy _ _ hs g⟩)
      · exact Or.inr (Or.inr g)
    | false => exact (O.2.2 f hf hs i hi).imp id Or.inr
theorem ap_back {ex : Bool} {n m : Nat} {ρ ρ' : Nat → Int} {M M1 : List ae_M} {ho' : List am_E} (H : ae_hp ex n ρ L xs M (am_mX2 ap_b s ho hx)) (e1 : ho.length = ae_np) (e2 : hx.length = ae_np) (hn : n ≤ m) (a : ae_ag n ρ ρ') (H1 : ae_hp ex m ρ' L xs M1 ho') (hM : ∀ q ∈ M1, am_sd ap_b s q.1 = true) :
    ae_hp ex m ρ' L xs (M1 ++ M.filter fun m => !(am_sd ap_b s m.1)) (am_mX2 ap_b s ho' hx) := by
  have e1' := H1.1.1
  have H := ae_hp_ext hn a H
  have dy1 : ∀ p j, ae_dy ρ' M1 p j → ae_dy ρ' (M1 ++ M.filter fun m => !(am_sd ap_b s m.1)) p j := by
    intro p j ⟨m, m1, m2, m3, m4⟩
    exact ⟨m, List.mem_append_left _ m1, m2, m3, m4⟩
  have dy2 : ∀ p j, am_sd ap_b s p = false → ae_dy ρ' M p j → ae_dy ρ' (M1 ++ M.filter fun m => !(am_sd ap_b s m.1)) p j := by
    intro p j hs ⟨m, m1, m2, m3, m4⟩
    exact ⟨m, List.mem_append_right _ (List.mem_filter.mpr ⟨m1, by rw [m3, hs]; rfl⟩), m2, m3, m4⟩
  refine ⟨⟨?_, fun k hk => ?_⟩, fun q hq => ?_, fun p j v hp hc => ?_, fun f hf i hi => ?_⟩
  · exact (am_mx_len (by omega)).trans e1'
  · cases hs : am_sd ap_b s (k + 1) with
    | true =>
      have := ap_at (s := s) e1' e2 hs
      have : (am_mX2 ap_b s ho' hx)[k]? = ho'[k]? := this
      rw [this]
      exact H1.1.2 k hk
    | false =>
      have h1 := ap_atx (s := s) e1' e2 hs
      have h2 := ap_atx (s := s) e1 e2 hs
      have h3 : (am_mX2 ap_b s ho' hx)[k]? = (am_mX2 ap_b s ho hx)[k]? := h1.trans h2.symm
      rw [h3]
      exact H.1.2 k hk
  · rcases List.mem_append.mp hq with hq | hq
    · obtain ⟨j, v, g1, g2, g3⟩ := H1.2.1 q hq
      exact ⟨j, v, g1, by rw [ap_c e1' e2 (hM q hq)]; exact g2, g3⟩
    · obtain ⟨m1, m2⟩ := List.mem_filter.mp hq
      have hs : am_sd ap_b s q.1 = false := by simpa using m2
      obtain ⟨j, v, g1, g2, g3⟩ := H.2.1 q m1
      refine ⟨j, v, g1, ?_, g3⟩
      rw [ap_cx e1' e2 hs]
      rw [ap_cx e1 e2 hs] at g2
      exact g2
  · cases hs : am_sd ap_b s p with
    | true =>
      rcases H1.2.2.1 p j v hp (by rw [ap_c e1' e2 hs] at hc; exact hc) with g | g | g
      · exact Or.inl g
      · exact Or.inr (Or.inl (dy1 p j g))
      · exact Or.inr (Or.inr g)
    | false =>
      rcases H.2.2.1 p j v hp (by rw [ap_cx e1' e2 hs] at hc; rw [ap_cx e1 e2 hs]; exact hc) with g | g | g
      · exact Or.inl g
      · exact Or.inr (Or.inl (dy2 p j hs g))
      · exact Or.inr (Or.inr g)
  · cases hs : am_sd ap_b s f.1 with
    | true =>
      rcases H1.2.2.2 f hf i hi with g | ⟨o, ho', g⟩ | g
      · exact Or.inl (ae_cl_eq (fun o _ => ap_c e1' e2 hs) g)
      · exact Or.inr (Or.inl ⟨o, ho', dy1 _ _ g⟩)
      · exact Or.inr (Or.inr g)
    | false =>
      rcases H.2.2.2 f hf i hi with g | ⟨o, ho', g⟩ | g
      · exact Or.inl (ae_cl_eq (fun o _ => by rw [ap_cx e1' e2 hs, ap_cx e1 e2 hs]) g)
      · exact Or.inr (Or.inl ⟨o, ho', dy2 _ _ hs g⟩)
      · exact Or.inr (Or.inr g)
theorem ap_fr {mo : ae_Mo} {ho' : List am_E} (e1 : ho.length = ae_np) (e1' : ho'.length = ae_np) (e2 : hx.length = ae_np) (f : ae_fr mo L xs ho ho') : ae_fr mo L xs (am_mX2 ap_b s ho hx) (am_mX2 ap_b s ho' hx) := by
  intro p j q
  cases hs : am_sd ap_b s p with
  | true => rw [ap_c e1' e2 hs, ap_c e1 e2 hs]; exact f p j q
  | false => rw [ap_cx e1' e2 hs, ap_cx e1 e2 hs]
/-- an effect on one's own side leaves the other as it is -/
theorem ap_app {f : am_Ef} {h1 : List am_E} (hf : ∀ o e, f = some (o, e) → ∃ k, o = some k ∧ am_sd ap_b s (k + 1) = true) (q : am_app ho f = some h1) {p : Nat} (hs : am_sd ap_b s p = false) : am_at h1 p = am_at ho p := by
  cases f with
  | none => cases q; rfl
  | some f =>
    obtain ⟨o, e⟩ := f
    obtain ⟨k, rfl, hk⟩ := hf o e rfl
    obtain ⟨e0, g1, g2⟩ := Option.bind_eq_some_iff.mp (show (ho[k]?.bind _) = some h1 from q)
    cases hb : Nat.beq (am_sz e0) (am_sz e) with
    | false => rw [hb] at g2; cases g2
    | true =>
      rw [hb] at g2
      cases g2
      cases p with
      | zero => rfl
      | succ m =>
        show (ho.set k e)[m]? = ho[m]?
        refine List.getElem?_set_ne (fun c => ?_)
        subst c
        rw [hs] at hk
        cases hk
theorem ap_eff {f : am_Ef} {h2 : List am_E} {st : List Value} (hst : ∀ k, Value.ref k ∈ st → am_sd ap_b s k = true) (hl : h2.length = h.length) (g : am_app h f = some h2) (he : ∀ k e, f = some (some k, e) → Value.ref (k + 1) ∈ st) : ∀ o e, f = some (o, e) → ∃ k, o = some k ∧ am_sd ap_b s (k + 1) = true := by
  intro o e ho
  cases o with
  | none =>
    rw [ho] at g
    cases g
    rw [List.length_append] at hl
    exact absurd hl (by show ¬ h.length + 1 = h.length; omega)
  | some k => exact ⟨k, rfl, hst _ (he k e ho)⟩
end APA

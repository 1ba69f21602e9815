/-! Where hooks may be, told by the places alone -/
noncomputable def af_wt (wt : Nat → Nat → Bool) (y p : Nat) : Bool := Nat.beq y 1000 || wt y p
noncomputable def af_hd (ms : List (ae_Mc × List (Nat × Nat))) (wt : Nat → Nat → Bool) : af_Hq := fun f1 _ y1 p1 y2 p2 => bif !f1 && af_wt wt y1 p1 then ms.any (fun m => Nat.beq m.1.1 y2 && Nat.beq m.1.2.1 p2) else false
theorem af_wt_of {wt : Nat → Nat → Bool} {y p : Nat} (h : wt y p = true) : af_wt wt y p = true := by
  unfold af_wt
  rw [h, Bool.or_true]
theorem af_hd_ok {W : ab_W} {ms : List (ae_Mc × List (Nat × Nat))} {wt : Nat → Nat → Bool} (h : W.hf = ad_hf ms wt) : af_hqok W (af_hd ms wt) := by
  intro f1 f2 z q
  rw [h] at q
  obtain ⟨k, M, O, w, T, ⟨l1, v1⟩, ⟨l2, v2⟩⟩ := z
  have q : (bif !f1 && ac_wtt wt (l1, v1) then (bif !f2 && ac_wtt wt (l2, v2) then false else ad_is ms (l2, v2)) else false) = true := q
  cases hb : (!f1 && ac_wtt wt (l1, v1)) with
  | false => rw [hb] at q; cases q
  | true =>
    rw [hb] at q
    have q : (bif !f2 && ac_wtt wt (l2, v2) then false else ad_is ms (l2, v2)) = true := q
    cases hc : (!f2 && ac_wtt wt (l2, v2)) with
    | true => rw [hc] at q; cases q
    | false =>
      rw [hc] at q
      have q : ad_is ms (l2, v2) = true := q
      rw [Bool.and_eq_true] at hb
      cases l2 with
      | nil => cases q
      | cons g2 r2 =>
        obtain ⟨a2, b2, c2, d2, e2⟩ := g2
        have q5 : (ms.any fun m => Nat.beq m.1.1 b2 && Nat.beq m.1.2.1 c2) = true := q
        cases l1 with
        | nil =>
          show (bif !f1 && af_wt wt 1000 0 then (ms.any fun m => Nat.beq m.1.1 b2 && Nat.beq m.1.2.1 c2) else false) = true
          rw [hb.1, q5]
          rfl
        | cons g1 r1 =>
          obtain ⟨a1, b1, c1, d1, e1⟩ := g1
          have hw : wt b1 c1 = true := hb.2
          show (bif !f1 && af_wt wt b1 c1 then (ms.any fun m => Nat.beq m.1.1 b2 && Nat.beq m.1.2.1 c2) else false) = true
          rw [hb.1, af_wt_of hw, q5]
          rfl
noncomputable def af_mb (y p : Nat) : Bool := (match am_code y p with
  | some q => am_isC q.1 || (match af_lk q.1 q.2.1 q.2.2 with
    | some _ => true
    | none => false)
  | none => false) || (Nat.beq y 261 && Nat.beq p 25)
noncomputable def af_hy (wt : Nat → Nat → Bool) : af_Hq := fun f1 f2 y1 p1 y2 p2 => (f1 && f2) || ((f1 || !(wt y1 p1)) && af_mb y1 p1) || (!f1 && af_wt wt y1 p1 && af_mb y2 p2)
theorem af_mb_call {f : ap_F} {a : Nat} (q : ac_call f a = true) : af_mb f.2.1 f.2.2.1 = true := by
  unfold ac_call at q
  unfold af_mb
  cases hc : am_code f.2.1 f.2.2.1 with
  | none => rw [hc] at q; cases q
  | some c =>
    rw [hc] at q
    obtain ⟨i, a, b⟩ := c
    cases i <;> first
      | (cases q; done)
      | rfl
theorem af_mb_look {k : ae_K} {f : ap_F} {c : Nat × ae_X} (q : ab_cell k f = some c) : af_mb f.2.1 f.2.2.1 = true := by
  unfold ab_cell at q
  unfold af_mb
  cases hc : am_code f.2.1 f.2.2.1 with
  | none => rw [hc] at q; cases q
  | some c =>
    rw [hc] at q
    obtain ⟨i, a, b⟩ := c
    cases i <;> first
      | (cases q; done)
      | rfl
theorem af_hy_ok {W : ab_W} {wt : Nat → Nat → Bool} (h : W.hf = ac_hf wt) : af_hqok W (af_hy wt) := by
  intro f1 f2 z q
  rw [h] at q
  unfold ac_hf at q
  -- what a thread that is looked at shows
  have tk : ∀ {l : List ap_F} {v : Option ae_V} {k : ae_K}, ac_tkl k (l, v) = true → ∃ f r, l = f :: r ∧ af_mb f.2.1 f.2.2.1 = true := by
    intro l v k q
    cases l with
    | nil => cases q
    | cons f r =>
      refine ⟨f, r, rfl, ?_⟩
      have q : (match ab_cell k f with
        | some c => ae_kc c.2 && ((Nat.beq c.1 3 && ae_le 11 c.2.1 && ae_le c.2.1 16) || (Nat.beq c.1 219 && (ae_ie c.2.1 14 || ae_ie c.2.1 15 || (ae_le 17 c.2.1 && ae_le c.2.1 19))))
        | none => false) = true := q
      cases hc : ab_cell k f with
      | none => rw [hc] at q; cases q
      | some c => exact af_mb_look hc
  have cl : ∀ {l : List ap_F} {v : Option ae_V} {a : Nat}, ac_cl (l, v) a = true → ∃ f r, l = f :: r ∧ af_mb f.2.1 f.2.2.1 = true := by
    intro l v a q
    cases l with
    | nil => cases q
    | cons f r => exact ⟨f, r, rfl, af_mb_call q⟩
  have h2 : ∀ {z : ab_St} {l : List ap_F} {v : Option ae_V}, z.t2 = (l, v) → ac_hf2 z true = true → ∃ f r, l = f :: r ∧ af_mb f.2.1 f.2.2.1 = true := by
    intro z l v e q
    have q : (ac_isz z.t2 || ac_isw z.t2 || (ac_uns z && ac_tkl z.k z.t2)) = true := q
    rw [e] at q
    rcases Bool.or_eq_true_iff.mp q with q | q
    · rcases Bool.or_eq_true_iff.mp q with q | q
      · cases l with
        | nil => cases q
        | cons f r =>
          refine ⟨f, r, rfl, ?_⟩
          have q : (Nat.beq f.2.1 261 && Nat.beq f.2.2.1 25) = true := q
          unfold af_mb
          rw [q, Bool.or_true]
      · obtain ⟨p, -, q⟩ := List.any_eq_true.mp q
        exact cl q
    · rw [Bool.and_eq_true] at q
      exact tk q.2
  have h1 : ∀ {z : ab_St} {l : List ap_F} {v : Option ae_V}, z.t1 = (l, v) → ac_hf2 z false = true → ∃ f r, l = f :: r ∧ af_mb f.2.1 f.2.2.1 = true := by
    intro z l v e q
    have q : (ac_uns z && ac_tkl z.k z.t1) = true := q
    rw [e, Bool.and_eq_true] at q
    exact tk q.2
  obtain ⟨k, M, O, w, T, ⟨l1, v1⟩, ⟨l2, v2⟩⟩ := z
  -- what is to be shown, by what the threads show
  have g1 : ∀ {y2 p2 : Nat} {f : ap_F}, (f1 || !(wt f.2.1 f.2.2.1)) = true → af_mb f.2.1 f.2.2.1 = true → af_hy wt f1 f2 f.2.1 f.2.2.1 y2 p2 = true := by
    intro y2 p2 f a1 a2
    show ((f1 && f2) || ((f1 || !(wt f.2.1 f.2.2.1)) && af_mb f.2.1 f.2.2.1) || _) = true
    rw [a1, a2]
    cases f1 && f2 <;> rfl
  have g2 : ∀ {y1 p1 : Nat} {f : ap_F}, f1 = false → af_wt wt y1 p1 = true → af_mb f.2.1 f.2.2.1 = true → af_hy wt f1 f2 y1 p1 f.2.1 f.2.2.1 = true := by
    intro y1 p1 f a0 a1 a2
    show ((f1 && f2) || ((f1 || !(wt y1 p1)) && af_mb y1 p1) || (!f1 && af_wt wt y1 p1 && af_mb f.2.1 f.2.2.1)) = true
    rw [a0, a1, a2]
    exact Bool.or_true _
  have at2 : ∀ {f : ap_F} {r : List ap_F} {v : Option ae_V} {κ : Nat → Nat → Bool}, af_at (f :: r, v) κ = κ f.2.1 f.2.2.1 := fun {f r v κ} => by
    obtain ⟨a, b, c, d, e⟩ := f
    rfl
  show af_at (l1, v1) (fun y1 p1 => af_at (l2, v2) fun y2 p2 => af_hy wt f1 f2 y1 p1 y2 p2) = true
  rcases Bool.or_eq_true_iff.mp q with q | q
  · simp only [Bool.and_eq_true] at q
    have e : ∀ a b c d, af_hy wt f1 f2 a b c d = true := by
      intro a b c d
      show ((f1 && f2) || _ || _) = true
      rw [q.1.1.1, q.1.1.2]
      rfl
    cases l1 with
    | nil =>
      cases l2 with
      | nil => exact e _ _ _ _
      | cons f r => show af_at (f :: r, v2) (fun y2 p2 => af_hy wt f1 f2 1000 0 y2 p2) = true; rw [at2]; exact e _ _ _ _
    | cons f r =>
      rw [at2]
      cases l2 with
      | nil => exact e _ _ _ _
      | cons f r => rw [at2]; exact e _ _ _ _
  · have q : (bif !f1 && ac_wtt wt (l1, v1) then (bif !f2 && ac_wtt wt (l2, v2) then false else ac_hf2 (k, M, O, w, T, (l1, v1), (l2, v2)) true) else ac_hf2 (k, M, O, w, T, (l1, v1), (l2, v2)) false) = true := q
    cases hb : (!f1 && ac_wtt wt (l1, v1)) with
    | true =>
      rw [hb] at q
      have q : (bif !f2 && ac_wtt wt (l2, v2) then false else ac_hf2 (k, M, O, w, T, (l1, v1), (l2, v2)) true) = true := q
      cases hc : (!f2 && ac_wtt wt (l2, v2)) with
      | true => rw [hc] at q; cases q
      | false =>
        rw [hc] at q
        obtain ⟨f, r, rfl, hm⟩ := h2 rfl q
        rw [Bool.and_eq_true] at hb
        have hf1 : f1 = false := by cases f1 with | false => rfl | true => exact absurd hb.1 (by decide)
        cases l1 with
        | nil => show af_at (f :: r, v2) (fun y2 p2 => af_hy wt f1 f2 1000 0 y2 p2) = true; rw [at2]; exact g2 hf1 rfl hm
        | cons f' r' => rw [at2, at2]; exact g2 hf1 (af_wt_of hb.2) hm
    | false =>
      rw [hb] at q
      obtain ⟨f, r, rfl, hm⟩ := h1 rfl q
      have hw : (f1 || !(wt f.2.1 f.2.2.1)) = true := by
        cases f1 with
        | true => rfl
        | false =>
          have hb : ac_wtt wt (f :: r, v1) = false := hb
          have hb : wt f.2.1 f.2.2.1 = false := hb
          rw [hb]
          rfl
      rw [at2]
      cases l2 with
      | nil => exact g1 hw hm
      | cons f' r' => rw [at2]; exact g1 hw hm
/-- a meeting point's walk in pieces, the fast walk -/
noncomputable def ai_gq (W : ab_W) (hq : af_Hq) (C : List ab_Ti) (w0 : ae_X) (n : Nat) (q : ad_X) : Bool := match q with
  | (f1, f2, nh, z) => af_nz C (af_go W hq C w0 n f1 f2 nh) z
noncomputable def ai_pc (W : ab_W) (hq : af_Hq) (t : ab_Tm) (m n : Nat) (f1 f2 : Bool) (i b : Nat) : Bool := match ad_ex W m [(f1, f2, false, ab_ini t.st)] with
  | some l => af_tT t fun C => ((l.drop i).take b).all (ai_gq W hq C t.rk n)
  | none => false
theorem ai_pc_ok {W : ab_W} {hq : af_Hq} (h : af_hqok W hq) {t : ab_Tm} {m n : Nat} {f1 f2 : Bool} {i b : Nat} (q : ai_pc W hq t m n f1 f2 i b = true) : ad_pc W t m n f1 f2 i b = true := by
  unfold ai_pc at q
  unfold ad_pc
  have e : ∀ C, ai_gq W hq C t.rk n = ad_gq W t.rk n := fun C => funext fun q => by
    obtain ⟨a, b, c, z⟩ := q
    show af_nz C (af_go W hq C t.rk n a b c) z = ad_gq W t.rk n (a, b, c, z)
    rw [af_nz_eq, af_go_eq h]
    rfl
  split at q
  · rename_i l hl
    rw [af_tT_eq, e] at q
    rw [hl]
    exact q
  · cases q

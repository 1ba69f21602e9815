/-! What an instruction does to what is known -/
abbrev ae_L : Type := List (Nat × ae_V)
abbrev ae_R : Type := Nat × ae_K × List ae_M × ae_L × List ae_V
noncomputable def ae_lr (n : Nat) (ρ : Nat → Int) (lv : ae_L) (lw : am_L) : Prop := ∀ q ∈ lv, ∃ v, am_lk lw q.1 = some v ∧ ae_ok n ρ q.2 v
noncomputable def ae_sr (n : Nat) (ρ : Nat → Int) : List ae_V → List Value → Prop
  | [], [] => True
  | a :: s, v :: t => ae_ok n ρ a v ∧ ae_sr n ρ s t
  | _, _ => False
/-- the symbol 0 is the script's length -/
noncomputable def ae_k0 (ρ : Nat → Int) (L : Nat) (k : ae_K) : Prop := (0 < k.1 ∧ L < 2147483648) ∧ ρ 0 = (L : Int)
noncomputable def ae_mm (ex : Bool) (ρ : Nat → Int) (L : Nat) (xs : Nat → Int32) (k : ae_K) (M : List ae_M) (lv : ae_L) (st : List ae_V) (lw : am_L) (sw : List Value) (h : List am_E) : Prop :=
  ae_okK ρ k ∧ ae_k0 ρ L k ∧ ae_hp ex k.1 ρ L xs M h ∧ ae_lr k.1 ρ lv lw ∧ ae_sr k.1 ρ st sw
noncomputable def ae_G (ex : Bool) (mo : ae_Mo) (ρ : Nat → Int) (L : Nat) (xs : Nat → Int32) (k : ae_K) (outs : List ae_R) (o : Option am_R4) (h : List am_E) : Prop :=
  ∃ z h1, o = some z ∧ am_app h z.2.2.2 = some h1 ∧ ae_fr mo L xs h h1 ∧ ∃ r ∈ outs, r.1 = z.1 ∧ ∃ ρ', ae_up2 ρ k ρ' r.2.1 ∧ ae_mm ex ρ' L xs r.2.1 r.2.2.1 r.2.2.2.1 r.2.2.2.2 z.2.1 z.2.2.1 h1
theorem ae_sr_ext {n m : Nat} {ρ ρ' : Nat → Int} (hn : n ≤ m) (h : ae_ag n ρ ρ') : ∀ {s : List ae_V} {t : List Value}, ae_sr n ρ s t → ae_sr m ρ' s t
  | [], [], _ => trivial
  | _ :: _, _ :: _, q => ⟨ae_ok_ext hn h q.1, ae_sr_ext hn h q.2⟩
  | [], _ :: _, q => absurd q id
  | _ :: _, [], q => absurd q id
theorem ae_lr_ext {n m : Nat} {ρ ρ' : Nat → Int} (hn : n ≤ m) (h : ae_ag n ρ ρ') {lv : ae_L} {lw : am_L} (q : ae_lr n ρ lv lw) : ae_lr m ρ' lv lw := fun p hp => by
  obtain ⟨v, h1, h2⟩ := q p hp
  exact ⟨v, h1, ae_ok_ext hn h h2⟩
theorem ae_k0_up {ρ ρ' : Nat → Int} {L : Nat} {k k' : ae_K} (h : ae_k0 ρ L k) (u : ae_up2 ρ k ρ' k') : ae_k0 ρ' L k' := ⟨⟨Nat.lt_of_lt_of_le h.1.1 u.1, h.1.2⟩, by rw [u.2.1 0 h.1.1]; exact h.2⟩
section AEG
variable {ex : Bool} {mo : ae_Mo} {ρ : Nat → Int} {L : Nat} {xs : Nat → Int32} {k k' : ae_K} {M : List ae_M} {lv : ae_L} {st : List ae_V} {lw : am_L} {sw : List Value} {h : List am_E} {pc : Nat}
theorem ae_G_push {a : ae_V} {v : Value} (H : ae_mm ex ρ L xs k M lv st lw sw h) (u : ∃ ρ', ae_up2 ρ k ρ' k' ∧ ae_ok k'.1 ρ' a v) : ae_G ex mo ρ L xs k [(pc, k', M, lv, a :: st)] (some (pc, lw, v :: sw, none)) h := by
  obtain ⟨ρ', u1, u2⟩ := u
  exact ⟨_, h, rfl, rfl, ae_fr_rf _ _ _ _, _, List.mem_singleton.mpr rfl, rfl, ρ', u1, u1.2.2, ae_k0_up H.2.1 u1, ae_hp_ext u1.1 u1.2.1 H.2.2.1, ae_lr_ext u1.1 u1.2.1 H.2.2.2.1, u2, ae_sr_ext u1.1 u1.2.1 H.2.2.2.2⟩
theorem ae_G_pure {lv2 : ae_L} {st2 : List ae_V} {lw2 : am_L} {sw2 : List Value} (H : ae_mm ex ρ L xs k M lv st lw sw h) (h1 : ae_lr k.1 ρ lv2 lw2) (h2 : ae_sr k.1 ρ st2 sw2) : ae_G ex mo ρ L xs k [(pc, k, M, lv2, st2)] (some (pc, lw2, sw2, none)) h :=
  ⟨_, h, rfl, rfl, ae_fr_rf _ _ _ _, _, List.mem_singleton.mpr rfl, rfl, ρ, ⟨Nat.le_refl _, ae_ag_rf _ _, H.1⟩, H.1, H.2.1, H.2.2.1, h1, h2⟩
theorem ae_same {a : ae_V} {v : Value} (H : ae_okK ρ k) (h : ae_ok k.1 ρ a v) : ∃ ρ', ae_up2 ρ k ρ' k ∧ ae_ok k.1 ρ' a v := ⟨ρ, ⟨Nat.le_refl _, ae_ag_rf _ _, H⟩, h⟩
theorem ae_sr1 {a : ae_V} {s : List ae_V} {n : Nat} (q : ae_sr n ρ (a :: s) sw) : ∃ v t, sw = v :: t ∧ ae_ok n ρ a v ∧ ae_sr n ρ s t := by
  cases sw with
  | nil => exact absurd q id
  | cons v t => exact ⟨v, t, rfl, q.1, q.2⟩
theorem ae_ok0 {a : ae_V} {v : Value} {n : Nat} (q : ae_ok n ρ a v) (ht : Nat.beq a.1 0 = true) : ∃ x : Int32, v = .int x ∧ ae_dn n ρ a.2.2 x.toInt := by
  unfold ae_ok at q
  rw [Nat.eq_of_beq_eq_true ht] at q
  exact q
theorem ae_ok1 {a : ae_V} {v : Value} {n : Nat} (q : ae_ok n ρ a v) (ht : Nat.beq a.1 1 = true) : ∃ x : Int64, v = .long x ∧ ae_dn n ρ a.2.2 x.toInt := by
  unfold ae_ok at q
  rw [Nat.eq_of_beq_eq_true ht] at q
  exact q
theorem ae_ok2 {a : ae_V} {v : Value} {n : Nat} (q : ae_ok n ρ a v) (ht : Nat.beq a.1 2 = true) : v = .ref a.2.1 := by
  unfold ae_ok at q
  rw [Nat.eq_of_beq_eq_true ht] at q
  exact q
theorem ae_ok4 {a : ae_V} {v : Value} {n : Nat} (q : ae_ok n ρ a v) (ht : Nat.beq a.1 4 = true) : ∃ y : Int, ae_dn n ρ a.2.2 y ∧ v = .int (ae_sg y) := by
  unfold ae_ok at q
  rw [Nat.eq_of_beq_eq_true ht] at q
  exact q
theorem ae_cat2 {a : ae_V} {v : Value} {n : Nat} (q : ae_ok n ρ a v) : v.category = bif Nat.beq a.1 1 then 2 else 1 := by
  obtain ⟨t, p, e⟩ := a
  unfold ae_ok at q
  match t, q with
  | 0, q => obtain ⟨x, h, -⟩ := q; rw [h]; rfl
  | 1, q => obtain ⟨x, h, -⟩ := q; rw [h]; rfl
  | 2, q =>
    have q : v = .ref p := q
    rw [q]; rfl
  | 3, q =>
    have q : v = .null := q
    rw [q]; rfl
  | 4, q => obtain ⟨x, -, h⟩ := q; rw [h]; rfl
  | t + 5, q => exact absurd q id
/-! locals -/
noncomputable def ae_lg (lv : ae_L) (i : Nat) : Option ae_V := List.rec (motive := fun _ => Option ae_V) none (fun q _ r => Bool.rec (motive := fun _ => Option ae_V) r (some q.2) (Nat.beq q.1 i)) lv
theorem ae_lg_c (q : Nat × ae_V) (r : ae_L) (i : Nat) : ae_lg (q :: r) i = bif Nat.beq q.1 i then some q.2 else ae_lg r i := by
  show Bool.rec (motive := fun _ => Option ae_V) (ae_lg r i) (some q.2) (Nat.beq q.1 i) = _
  cases Nat.beq q.1 i <;> rfl
noncomputable def ae_p1 (lv : ae_L) (i : Nat) (v : ae_V) : ae_L := (i, v) :: ai_flt (fun q => !(Nat.beq q.1 i) && !(Nat.beq (q.1 + 1) i && Nat.beq q.2.1 1)) lv
noncomputable def ae_p2 (lv : ae_L) (i : Nat) (v : ae_V) : ae_L := (i, v) :: ai_flt (fun q => !(Nat.beq q.1 i) && (!(Nat.beq q.1 (i + 1)) && !(Nat.beq (q.1 + 1) i && Nat.beq q.2.1 1))) lv
theorem ae_lg_ok {n : Nat} : ∀ {lv : ae_L} {i : Nat} {a : ae_V}, ae_lr n ρ lv lw → ae_lg lv i = some a → ∃ v, am_lk lw i = some v ∧ ae_ok n ρ a v
  | [], _, _, _, h => by cases h
  | q :: r, i, a, hl, h => by
    rw [ae_lg_c] at h
    cases hb : Nat.beq q.1 i with
    | true =>
      rw [hb] at h
      cases h
      obtain ⟨v, h1, h2⟩ := hl q List.mem_cons_self
      rw [Nat.eq_of_beq_eq_true hb] at h1
      exact ⟨v, h1, h2⟩
    | false =>
      rw [hb] at h
      exact ae_lg_ok (lv := r) (fun p hp => hl p (List.mem_cons_of_mem _ hp)) h
theorem ae_lk_fil {F : Nat × Value → Bool} {j : Nat} {w : Value} (hF : F (j, w) = true) : ∀ {l : am_L}, am_lk l j = some w → am_lk (l.filter F) j = some w
  | [], h => by cases h
  | q :: t, h => by
    unfold am_lk at h
    rw [List.filter_cons]
    cases hb : Nat.beq q.1 j with
    | true =>
      rw [hb] at h
      have e1 := Nat.eq_of_beq_eq_true hb
      have e2 : q.2 = w := Option.some.inj h
      obtain ⟨q1, q2⟩ := q
      have e1 : q1 = j := e1
      have e2 : q2 = w := e2
      subst e1; subst e2
      rw [if_pos hF]
      unfold am_lk
      rw [hb]; rfl
    | false =>
      rw [hb] at h
      have ih := ae_lk_fil hF (l := t) h
      by_cases hq : F q = true
      · rw [if_pos hq]
        unfold am_lk
        rw [hb]
        exact ih
      · rw [if_neg hq]
        exact ih
theorem ae_p1_ok {n i : Nat} {a : ae_V} {v : Value} (hl : ae_lr n ρ lv lw) (hv : ae_ok n ρ a v) : ae_lr n ρ (ae_p1 lv i a) (am_put1 lw i v) := by
  unfold ae_p1
  rw [ai_flt_e]
  intro q hq
  rcases List.mem_cons.mp hq with rfl | hq
  · exact ⟨v, by show (bif Nat.beq i i then some v else _) = some v; rw [Nat.beq_refl]; rfl, hv⟩
  · obtain ⟨q1, q2⟩ := List.mem_filter.mp hq
    obtain ⟨w, h1, h2⟩ := hl q q1
    rw [Bool.and_eq_true] at q2
    refine ⟨w, ?_, h2⟩
    have hne : Nat.beq i q.1 = false := by
      cases hb : Nat.beq i q.1 with
      | true => have := Nat.eq_of_beq_eq_true hb; rw [← this, Nat.beq_refl] at q2; exact absurd q2.1 (by decide)
      | false => rfl
    show (bif Nat.beq i q.1 then some v else am_lk _ q.1) = some w
    rw [hne]
    refine ae_lk_fil ?_ h1
    have c := ae_cat2 h2
    have h3 : (q.1 == i) = false := by
      cases hb : (q.1 == i) with
      | true => have := eq_of_beq hb; rw [this, Nat.beq_refl] at hne; cases hne
      | false => rfl
    have h4 : (q.1 + 1 == i && w.category == 2) = false := by
      cases hb : (q.1 + 1 == i && w.category == 2) with
      | false => rfl
      | true =>
        rw [Bool.and_eq_true] at hb
        have e1 : Nat.beq (q.1 + 1) i = true := by rw [eq_of_beq hb.1, Nat.beq_refl]
        have e2 : w.category = 2 := eq_of_beq hb.2
        rw [c] at e2
        cases h5 : Nat.beq q.2.1 1 with
        | true => rw [e1, h5] at q2; exact absurd q2.2 (by decide)
        | false => rw [h5] at e2; cases e2
    show (!(q.1 == i) && !(q.1 + 1 == i && w.category == 2)) = true
    rw [h3, h4]; rfl
theorem ae_p2_ok {n i : Nat} {a : ae_V} {v : Value} (hl : ae_lr n ρ lv lw) (hv : ae_ok n ρ a v) : ae_lr n ρ (ae_p2 lv i a) (am_put2 lw i v) := by
  unfold ae_p2
  rw [ai_flt_e]
  intro q hq
  rcases List.mem_cons.mp hq with rfl | hq
  · exact ⟨v, by show (bif Nat.beq i i then some v else _) = some v; rw [Nat.beq_refl]; rfl, hv⟩
  · obtain ⟨q1, q2⟩ := List.mem_filter.mp hq
    obtain ⟨w, h1, h2⟩ := hl q q1
    simp only [Bool.and_eq_true] at q2
    refine ⟨w, ?_, h2⟩
    have hne : Nat.beq i q.1 = false := by
      cases hb : Nat.beq i q.1 with
      | true => have := Nat.eq_of_beq_eq_true hb; rw [← this, Nat.beq_refl] at q2; exact absurd q2.1 (by decide)
      | false => rfl
    show (bif Nat.beq i q.1 then some v else am_lk _ q.1) = some w
    rw [hne]
    refine ae_lk_fil ?_ h1
    have c := ae_cat2 h2
    have h3 : (q.1 == i) = false := by
      cases hb : (q.1 == i) with
      | true => have := eq_of_beq hb; rw [this, Nat.beq_refl] at hne; cases hne
      | false => rfl
    have h6 : (q.1 == i + 1) = false := by
      cases hb : (q.1 == i + 1) with
      | true => have := eq_of_beq hb; rw [this, Nat.beq_refl] at q2; exact absurd q2.2.1 (by decide)
      | false => rfl
    have h4 : (q.1 + 1 == i && w.category == 2) = false := by
      cases hb : (q.1 + 1 == i && w.category == 2) with
      | false => rfl
      | true =>
        rw [Bool.and_eq_true] at hb
        have e1 : Nat.beq (q.1 + 1) i = true := by rw [eq_of_beq hb.1, Nat.beq_refl]
        have e2 : w.category = 2 := eq_of_beq hb.2
        rw [c] at e2
        cases h5 : Nat.beq q.2.1 1 with
        | true => rw [e1, h5] at q2; exact absurd q2.2.2 (by decide)
        | false => rw [h5] at e2; cases e2
    show (!(q.1 == i) && (!(q.1 == i + 1) && !(q.1 + 1 == i && w.category == 2))) = true
    rw [h3, h4, h6]; rfl
/-! two ints -/
noncomputable def ae_bo (f : ae_K → ae_X → ae_X → Option (ae_K × ae_V)) (pc : Nat) (k : ae_K) (M : List ae_M) (lv : ae_L) (st : List ae_V) : Option (List ae_R) := match st with
  | y :: x :: r => bif Nat.beq y.1 0 && Nat.beq x.1 0 then (f k x.2.2 y.2.2).bind fun q => some [(pc, q.1, M, lv, q.2 :: r)] else none
  | _ => none
theorem ae_bo_ok {f : ae_K → ae_X → ae_X → Option (ae_K × ae_V)} {F : Int32 → Int32 → Int32} (hf : ae_snd f F) {o : List ae_R} (H : ae_mm ex ρ L xs k M lv st lw sw h) (q : ae_bo f pc k M lv st = some o) : ∃ x y t, sw = .int y :: .int x :: t ∧ ae_G ex mo ρ L xs k o (some (pc, lw, .int (F x y) :: t, none)) h ∧ (∀ X Y r, st = Y :: X :: r → ae_dn k.1 ρ Y.2.2 y.toInt) := by
  unfold ae_bo at q
  split at q
  · rename_i Y X r
    cases hb : Nat.beq Y.1 0 && Nat.beq X.1 0 with
    | false => rw [hb] at q; cases q
    | true =>
      rw [hb] at q
      rw [Bool.and_eq_true] at hb
      obtain ⟨z, h1, q⟩ := Option.bind_eq_some_iff.mp q
      cases q
      obtain ⟨v, t, rfl, g1, g2⟩ := ae_sr1 H.2.2.2.2
      obtain ⟨w, t, rfl, g3, g4⟩ := ae_sr1 g2
      obtain ⟨y, rfl, d1⟩ := ae_ok0 g1 hb.1
      obtain ⟨x, rfl, d2⟩ := ae_ok0 g3 hb.2
      refine ⟨x, y, t, rfl, ?_, fun X' Y' r' e => by cases e; exact d1⟩
      exact ae_G_push (st := r) ⟨H.1, H.2.1, H.2.2.1, H.2.2.2.1, g4⟩ (hf ρ k X.2.2 Y.2.2 x y z H.1 d2 d1 h1)
  · cases q
/-! two longs -/
noncomputable def ae_sne (f : ae_K → ae_X → ae_X → Option (ae_K × ae_V)) (F : Int64 → Int64 → Value) : Prop := ∀ (ρ : Nat → Int) (k : ae_K) (X Y : ae_X) (x y : Int64) (q : ae_K × ae_V), ae_okK ρ k → ae_dn k.1 ρ X x.toInt → ae_dn k.1 ρ Y y.toInt → f k X Y = some q → ∃ ρ', ae_up2 ρ k ρ' q.1 ∧ ae_ok q.1.1 ρ' q.2 (F x y)
noncomputable def ae_bj (f : ae_K → ae_X → ae_X → Option (ae_K × ae_V)) (pc : Nat) (k : ae_K) (M : List ae_M) (lv : ae_L) (st : List ae_V) : Option (List ae_R) := match st with
  | y :: x :: r => bif Nat.beq y.1 1 && Nat.beq x.1 1 then (f k (ae_nr k x.2.2) (ae_nr k y.2.2)).bind fun q => some [(pc, q.1, M, lv, q.2 :: r)] else none
  | _ => none
theorem ae_bj_ok {f : ae_K → ae_X → ae_X → Option (ae_K × ae_V)} {F : Int64 → Int64 → Value} (hf : ae_sne f F) {o : List ae_R} (H : ae_mm ex ρ L xs k M lv st lw sw h) (q : ae_bj f pc k M lv st = some o) : ∃ x y t, sw = .long y :: .long x :: t ∧ ae_G ex mo ρ L xs k o (some (pc, lw, F x y :: t, none)) h ∧ (∀ X Y r, st = Y :: X :: r → ae_dn k.1 ρ (ae_nr k Y.2.2) y.toInt) := by
  unfold ae_bj at q
  split at q
  · rename_i Y X r
    cases hb : Nat.beq Y.1 1 && Nat.beq X.1 1 with
    | false => rw [hb] at q; cases q
    | true =>
      rw [hb] at q
      rw [Bool.and_eq_true] at hb
      obtain ⟨z, h1, q⟩ := Option.bind_eq_some_iff.mp q
      cases q
      obtain ⟨v, t, rfl, g1, g2⟩ := ae_sr1 H.2.2.2.2
      obtain ⟨w, t, rfl, g3, g4⟩ := ae_sr1 g2
      obtain ⟨y, rfl, d1⟩ := ae_ok1 g1 hb.1
      obtain ⟨x, rfl, d2⟩ := ae_ok1 g3 hb.2
      refine ⟨x, y, t, rfl, ?_, fun X' Y' r' e => by cases e; exact ae_nr_dn H.1 d1⟩
      exact ae_G_push (st := r) ⟨H.1, H.2.1, H.2.2.1, H.2.2.2.1, g4⟩ (hf ρ k _ _ x y z H.1 (ae_nr_dn H.1 d2) (ae_nr_dn H.1 d1) h1)
  · cases q
end AEG
noncomputable def ae_hadd (k : ae_K) (X Y : ae_X) : Option (ae_K × ae_V) := some (ae_pj k (ae_add X Y))
noncomputable def ae_hsub (k : ae_K) (X Y : ae_X) : Option (ae_K × ae_V) := some (ae_pj k (ae_sub X Y))
noncomputable def ae_hful (k : ae_K) (_ _ : ae_X) : Option (ae_K × ae_V) := some (ae_nj k)
noncomputable def ae_hmul (k : ae_K) (X Y : ae_X) : Option (ae_K × ae_V) := bif ae_kc X then some (ae_pj k (ae_scl X.1 Y)) else bif ae_kc Y then some (ae_pj k (ae_scl Y.1 X)) else some (ae_nj k)
noncomputable def ae_hcmp (k : ae_K) (X Y : ae_X) : Option (ae_K × ae_V) := some (k, (4, 0, ae_sub X Y))
theorem ae_hadd_ok : ae_sne ae_hadd (fun x y => .long (x + y)) := by
  intro ρ k X Y x y q hK hX hY h
  cases h
  exact ae_pj_ok hK (ae_add_dn hX hY) (ae_x_add x y)
theorem ae_hsub_ok : ae_sne ae_hsub (fun x y => .long (x - y)) := by
  intro ρ k X Y x y q hK hX hY h
  cases h
  exact ae_pj_ok hK (ae_sub_dn hX hY) (ae_x_sub x y)
theorem ae_hful_ok (F : Int64 → Int64 → Int64) : ae_sne ae_hful (fun x y => .long (F x y)) := by
  intro ρ k X Y x y q hK hX hY h
  cases h
  exact ae_nj_ok hK _
theorem ae_hmul_ok : ae_sne ae_hmul (fun x y => .long (x * y)) := by
  intro ρ k X Y x y q hK hX hY h
  unfold ae_hmul at h
  cases h1 : ae_kc X with
  | true =>
    rw [h1] at h
    cases h
    have h2 := ae_kc_ok h1 hX
    exact ae_pj_ok hK (ae_scl_dn hY X.1) (by rw [ae_x_mul, h2])
  | false =>
    rw [h1] at h
    cases h3 : ae_kc Y with
    | true =>
      rw [h3] at h
      cases h
      have h2 := ae_kc_ok h3 hY
      exact ae_pj_ok hK (ae_scl_dn hX Y.1) (by rw [ae_x_mul, h2, Int.mul_comm])
    | false =>
      rw [h3] at h
      cases h
      exact ae_nj_ok hK _
theorem ae_hcmp_ok : ae_sne ae_hcmp (fun x y => .int (lg_cmp x y)) := by
  intro ρ k X Y x y q hK hX hY h
  cases h
  refine ⟨ρ, ⟨Nat.le_refl _, ae_ag_rf _ _, hK⟩, x.toInt - y.toInt, ae_sub_dn hX hY, ?_⟩
  show Value.int (lg_cmp x y) = Value.int (ae_sg (x.toInt - y.toInt))
  congr 1
  unfold lg_cmp ae_sg
  have e1 : (x > y) ↔ y.toInt < x.toInt := Int64.lt_iff_toInt_lt
  have e2 : (x = y) ↔ x.toInt = y.toInt := Int64.toInt_inj.symm
  by_cases c1 : x > y
  · rw [if_pos c1]
    have := e1.mp c1
    rw [if_neg (by omega), if_neg (by omega)]
  · rw [if_neg c1]
    have c1' : ¬ y.toInt < x.toInt := fun q => c1 (e1.mpr q)
    by_cases c2 : x = y
    · rw [if_pos c2]
      have := e2.mp c2
      rw [if_neg (by omega), if_pos (by omega)]
    · rw [if_neg c2]
      have c2' : ¬ x.toInt = y.toInt := fun q => c2 (e2.mpr q)
      rw [if_pos (by omega)]
/-! conditions -/
theorem ae_cm1_eq (c : ClassFile.Cond) (x : Int32) : am_cm1 c x = ae_c0 c x.toInt := by
  have z : (0 : Int32).toInt = 0 := rfl
  cases c <;> (unfold am_cm1 ae_c0; simp only [Int32.lt_iff_toInt_lt, Int32.le_iff_toInt_le, ← Int32.toInt_inj, z])
theorem ae_cm2_eq (c : ClassFile.Cond) (x y : Int32) : am_cm2 c x y = ae_c0 c (x.toInt - y.toInt) := by
  cases c <;> (unfold am_cm2 ae_c0; simp only [Int32.lt_iff_toInt_lt, Int32.le_iff_toInt_le, ← Int32.toInt_inj]; apply decide_eq_decide.mpr; omega)
theorem ae_cm4_eq (c : ClassFile.Cond) (y : Int) : am_cm1 c (ae_sg y) = ae_c0 c y := by
  rw [ae_cm1_eq]
  have h : (ae_sg y).toInt = if y < 0 then -1 else if y = 0 then 0 else 1 := by
    unfold ae_sg
    split
    · rfl
    · split <;> rfl
  rw [h]
  cases c <;> (unfold ae_c0; apply decide_eq_decide.mpr; split <;> (try split) <;> omega)
noncomputable def ae_ifk (t f : Nat) (M : List ae_M) (lv : ae_L) (r : List ae_V) (q : List ae_K × List ae_K) : List ae_R := ai_app (ai_map (fun k => (t, k, M, lv, r)) q.1) (ai_map (fun k => (f, k, M, lv, r)) q.2)
theorem ae_if_ok {ex : Bool} {mo : ae_Mo} {ρ : Nat → Int} {L : Nat} {xs : Nat → Int32} {k : ae_K} {M : List ae_M} {lv : ae_L} {r : List ae_V} {lw : am_L} {t : List Value} {h : List am_E} {x : Int} {e : ae_X} (H : ae_mm ex ρ L xs k M lv r lw t h) (hd : ae_dn k.1 ρ e x) (c : ClassFile.Cond) (p1 p2 : Nat) : ae_G ex mo ρ L xs k (ae_ifk p1 p2 M lv r (ae_cd k e c)) (some (bif ae_c0 c x then p1 else p2, lw, t, none)) h := by
  obtain ⟨k', m, K', n'⟩ := ae_cd_ok H.1 hd c
  have fin : ∀ pc, (pc, k', M, lv, r) ∈ ae_ifk p1 p2 M lv r (ae_cd k e c) → ae_G ex mo ρ L xs k (ae_ifk p1 p2 M lv r (ae_cd k e c)) (some (pc, lw, t, none)) h := fun pc hm =>
    ⟨_, h, rfl, rfl, ae_fr_rf _ _ _ _, _, hm, rfl, ρ, ⟨by rw [n']; exact Nat.le_refl _, ae_ag_rf _ _, K'⟩, K', ⟨by rw [n']; exact H.2.1.1, H.2.1.2⟩, by rw [n']; exact H.2.2.1, by rw [n']; exact H.2.2.2.1, by rw [n']; exact H.2.2.2.2⟩
  cases hb : ae_c0 c x with
  | true =>
    rw [hb] at m
    exact fin p1 (by unfold ae_ifk; rw [ai_app_e, ai_map_e, ai_map_e]; exact List.mem_append_left _ (List.mem_map.mpr ⟨k', m, rfl⟩))
  | false =>
    rw [hb] at m
    exact fin p2 (by unfold ae_ifk; rw [ai_app_e, ai_map_e, ai_map_e]; exact List.mem_append_right _ (List.mem_map.mpr ⟨k', m, rfl⟩))

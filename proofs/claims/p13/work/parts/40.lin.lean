/-! A reading of runs by linear values: a value is a number and so many times each symbol; what is known of the symbols: bounds, and sums that are no greater than 0 -/
abbrev ae_T : Type := List (Nat × Int)
abbrev ae_X : Type := Int × ae_T
abbrev ae_B : Type := List (Nat × Int × Int)
abbrev ae_K : Type := Nat × ae_B × List ae_X × List (ae_X × Nat)
noncomputable def ae_nn : Int → Bool
  | .ofNat _ => true
  | .negSucc _ => false
theorem ae_nn_iff {a : Int} : ae_nn a = true ↔ 0 ≤ a := by
  cases a with
  | ofNat n => exact ⟨fun _ => by show 0 ≤ ((n : Nat) : Int); omega, fun _ => rfl⟩
  | negSucc n => exact ⟨fun h => (by cases h), fun h => absurd h (Int.not_le.mpr (Int.negSucc_lt_zero n))⟩
noncomputable def ae_le (a b : Int) : Bool := ae_nn (b - a)
theorem ae_le_iff {a b : Int} : ae_le a b = true ↔ a ≤ b := by
  unfold ae_le
  rw [ae_nn_iff]
  omega
noncomputable def ae_ie : Int → Int → Bool
  | .ofNat a, .ofNat b => Nat.beq a b
  | .negSucc a, .negSucc b => Nat.beq a b
  | _, _ => false
theorem ae_ie_ok : ∀ {a b : Int}, ae_ie a b = true → a = b
  | .ofNat _, .ofNat _, h => by rw [Nat.eq_of_beq_eq_true h]
  | .negSucc _, .negSucc _, h => by rw [Nat.eq_of_beq_eq_true h]
  | .ofNat _, .negSucc _, h => by cases h
  | .negSucc _, .ofNat _, h => by cases h
noncomputable def ae_et (ρ : Nat → Int) : ae_T → Int
  | [] => 0
  | t :: r => t.2 * ρ t.1 + ae_et ρ r
noncomputable def ae_ev (ρ : Nat → Int) (e : ae_X) : Int := e.1 + ae_et ρ e.2
noncomputable def ae_wt (n : Nat) : ae_T → Prop
  | [] => True
  | t :: r => t.1 < n ∧ ae_wt n r
/-- an expression of symbols below n stands for x -/
noncomputable def ae_dn (n : Nat) (ρ : Nat → Int) (e : ae_X) (x : Int) : Prop := ae_wt n e.2 ∧ ae_ev ρ e = x
noncomputable def ae_ag (n : Nat) (ρ ρ' : Nat → Int) : Prop := ∀ s, s < n → ρ' s = ρ s
theorem ae_ag_rf (n : Nat) (ρ : Nat → Int) : ae_ag n ρ ρ := fun _ _ => rfl
theorem ae_ag_tr {n m : Nat} {ρ σ τ : Nat → Int} (h : n ≤ m) (a : ae_ag n ρ σ) (b : ae_ag m σ τ) : ae_ag n ρ τ := fun s hs => (b s (Nat.lt_of_lt_of_le hs h)).trans (a s hs)
theorem ae_wt_le {n m : Nat} (h : n ≤ m) : ∀ {r : ae_T}, ae_wt n r → ae_wt m r
  | [], _ => trivial
  | _ :: _, q => ⟨Nat.lt_of_lt_of_le q.1 h, ae_wt_le h q.2⟩
theorem ae_et_ag {n : Nat} {ρ ρ' : Nat → Int} (h : ae_ag n ρ ρ') : ∀ {r : ae_T}, ae_wt n r → ae_et ρ' r = ae_et ρ r
  | [], _ => rfl
  | t :: r, q => by
    show t.2 * ρ' t.1 + ae_et ρ' r = t.2 * ρ t.1 + ae_et ρ r
    rw [h t.1 q.1, ae_et_ag h q.2]
theorem ae_ev_ag {n : Nat} {ρ ρ' : Nat → Int} (h : ae_ag n ρ ρ') {e : ae_X} (w : ae_wt n e.2) : ae_ev ρ' e = ae_ev ρ e := by
  unfold ae_ev
  rw [ae_et_ag h w]
theorem ae_dn_ext {n m : Nat} {ρ ρ' : Nat → Int} (hn : n ≤ m) (h : ae_ag n ρ ρ') {e : ae_X} {x : Int} (w : ae_dn n ρ e x) : ae_dn m ρ' e x :=
  ⟨ae_wt_le hn w.1, (ae_ev_ag h w.1).trans w.2⟩
noncomputable def ae_ins (s : Nat) (c : Int) (l : ae_T) : ae_T := List.rec (motive := fun _ => ae_T) (bif ae_ie c 0 then [] else [(s, c)])
  (fun t r ih => bif Nat.beq t.1 s then (bif ae_ie (t.2 + c) 0 then r else (s, t.2 + c) :: r)
    else bif Nat.blt s t.1 then (bif ae_ie c 0 then t :: r else (s, c) :: t :: r) else t :: ih) l
theorem ae_ins_n (s : Nat) (c : Int) : ae_ins s c [] = bif ae_ie c 0 then [] else [(s, c)] := rfl
theorem ae_ins_c (s : Nat) (c : Int) (t : Nat × Int) (r : ae_T) : ae_ins s c (t :: r) = bif Nat.beq t.1 s then (bif ae_ie (t.2 + c) 0 then r else (s, t.2 + c) :: r)
    else bif Nat.blt s t.1 then (bif ae_ie c 0 then t :: r else (s, c) :: t :: r) else t :: ae_ins s c r := rfl
theorem ae_ins_ev (ρ : Nat → Int) (s : Nat) (c : Int) : ∀ r : ae_T, ae_et ρ (ae_ins s c r) = c * ρ s + ae_et ρ r
  | [] => by
    rw [ae_ins_n]
    cases h : ae_ie c 0 with
    | true => rw [ae_ie_ok h]; show (0 : Int) = 0 * ρ s + 0; omega
    | false => rfl
  | t :: r => by
    rw [ae_ins_c]
    cases h : Nat.beq t.1 s with
    | true =>
      have h1 := Nat.eq_of_beq_eq_true h
      cases h2 : ae_ie (t.2 + c) 0 with
      | true =>
        have h3 := ae_ie_ok h2
        show ae_et ρ r = c * ρ s + (t.2 * ρ t.1 + ae_et ρ r)
        have h4 : c * ρ s + t.2 * ρ s = 0 := by rw [← Int.add_mul, Int.add_comm, h3, Int.zero_mul]
        rw [h1]; omega
      | false =>
        show (t.2 + c) * ρ s + ae_et ρ r = c * ρ s + (t.2 * ρ t.1 + ae_et ρ r)
        rw [h1, Int.add_mul]; omega
    | false =>
      cases h1 : Nat.blt s t.1 with
      | true =>
        cases h2 : ae_ie c 0 with
        | true => rw [ae_ie_ok h2]; show t.2 * ρ t.1 + ae_et ρ r = 0 * ρ s + (t.2 * ρ t.1 + ae_et ρ r); omega
        | false => rfl
      | false =>
        show t.2 * ρ t.1 + ae_et ρ (ae_ins s c r) = c * ρ s + (t.2 * ρ t.1 + ae_et ρ r)
        rw [ae_ins_ev ρ s c r]; omega
theorem ae_ins_wt {n s : Nat} (hs : s < n) (c : Int) : ∀ {r : ae_T}, ae_wt n r → ae_wt n (ae_ins s c r)
  | [], _ => by
    rw [ae_ins_n]
    cases ae_ie c 0 with
    | true => exact trivial
    | false => exact ⟨hs, trivial⟩
  | t :: r, q => by
    rw [ae_ins_c]
    cases h : Nat.beq t.1 s with
    | true =>
      cases h2 : ae_ie (t.2 + c) 0 with
      | true => exact q.2
      | false => exact ⟨hs, q.2⟩
    | false =>
      cases h1 : Nat.blt s t.1 with
      | true =>
        cases h2 : ae_ie c 0 with
        | true => exact q
        | false => exact ⟨hs, q⟩
      | false => exact ⟨q.1, ae_ins_wt hs c q.2⟩
noncomputable def ae_at (a b : ae_T) : ae_T := List.rec (motive := fun _ => ae_T) b (fun t _ r => ae_ins t.1 t.2 r) a
theorem ae_at_ev (ρ : Nat → Int) (b : ae_T) : ∀ a : ae_T, ae_et ρ (ae_at a b) = ae_et ρ a + ae_et ρ b
  | [] => by show ae_et ρ b = 0 + ae_et ρ b; omega
  | t :: r => by
    show ae_et ρ (ae_ins t.1 t.2 (ae_at r b)) = (t.2 * ρ t.1 + ae_et ρ r) + ae_et ρ b
    rw [ae_ins_ev, ae_at_ev ρ b r]; omega
theorem ae_at_wt {n : Nat} {b : ae_T} (hb : ae_wt n b) : ∀ {a : ae_T}, ae_wt n a → ae_wt n (ae_at a b)
  | [], _ => hb
  | _ :: _, q => ae_ins_wt q.1 _ (ae_at_wt hb q.2)
noncomputable def ae_mt (m : Int) (l : ae_T) : ae_T := List.rec (motive := fun _ => ae_T) [] (fun t _ r => (t.1, t.2 * m) :: r) l
theorem ae_mt_ev (ρ : Nat → Int) (m : Int) : ∀ a : ae_T, ae_et ρ (ae_mt m a) = m * ae_et ρ a
  | [] => by show (0 : Int) = m * 0; omega
  | t :: r => by
    show t.2 * m * ρ t.1 + ae_et ρ (ae_mt m r) = m * (t.2 * ρ t.1 + ae_et ρ r)
    rw [ae_mt_ev ρ m r, Int.mul_add, Int.mul_comm t.2 m, Int.mul_assoc]
theorem ae_mt_wt {n : Nat} (m : Int) : ∀ {a : ae_T}, ae_wt n a → ae_wt n (ae_mt m a)
  | [], _ => trivial
  | _ :: _, q => ⟨q.1, ae_mt_wt m q.2⟩
noncomputable def ae_num (k : Int) : ae_X := (k, [])
noncomputable def ae_sym (s : Nat) : ae_X := (0, [(s, 1)])
noncomputable def ae_add (a b : ae_X) : ae_X := (a.1 + b.1, ae_at a.2 b.2)
noncomputable def ae_scl (m : Int) (a : ae_X) : ae_X := bif ae_ie m 0 then (0, []) else (m * a.1, ae_mt m a.2)
/-- k less a -/
noncomputable def ae_neg (a : ae_X) (k : Int) : ae_X := (k - a.1, ae_mt (-1) a.2)
noncomputable def ae_sub (a b : ae_X) : ae_X := (a.1 - b.1, ae_at (ae_mt (-1) b.2) a.2)
noncomputable def ae_pls (a : ae_X) (k : Int) : ae_X := (a.1 + k, a.2)
theorem ae_add_ev (ρ : Nat → Int) (a b : ae_X) : ae_ev ρ (ae_add a b) = ae_ev ρ a + ae_ev ρ b := by
  unfold ae_ev ae_add
  rw [ae_at_ev]; omega
theorem ae_scl_ev (ρ : Nat → Int) (m : Int) (a : ae_X) : ae_ev ρ (ae_scl m a) = m * ae_ev ρ a := by
  unfold ae_scl
  cases h : ae_ie m 0 with
  | true => rw [ae_ie_ok h]; show (0 : Int) + 0 = 0 * ae_ev ρ a; omega
  | false =>
    show m * a.1 + ae_et ρ (ae_mt m a.2) = m * (a.1 + ae_et ρ a.2)
    rw [ae_mt_ev, Int.mul_add]
theorem ae_neg_ev (ρ : Nat → Int) (a : ae_X) (k : Int) : ae_ev ρ (ae_neg a k) = k - ae_ev ρ a := by
  unfold ae_ev ae_neg
  rw [ae_mt_ev]; omega
theorem ae_sub_ev (ρ : Nat → Int) (a b : ae_X) : ae_ev ρ (ae_sub a b) = ae_ev ρ a - ae_ev ρ b := by
  unfold ae_ev ae_sub
  rw [ae_at_ev, ae_mt_ev]; omega
theorem ae_pls_ev (ρ : Nat → Int) (a : ae_X) (k : Int) : ae_ev ρ (ae_pls a k) = ae_ev ρ a + k := by
  unfold ae_ev ae_pls
  show a.1 + k + ae_et ρ a.2 = _
  omega
section AEL
variable {n : Nat} {ρ : Nat → Int} {a b : ae_X} {x y : Int}
theorem ae_num_dn (k : Int) : ae_dn n ρ (ae_num k) k := ⟨trivial, Int.add_zero k⟩
theorem ae_sym_dn {s : Nat} (h : s < n) : ae_dn n ρ (ae_sym s) (ρ s) := ⟨⟨h, trivial⟩, by show (0 : Int) + (1 * ρ s + 0) = ρ s; omega⟩
theorem ae_add_dn (h : ae_dn n ρ a x) (k : ae_dn n ρ b y) : ae_dn n ρ (ae_add a b) (x + y) := ⟨ae_at_wt k.1 h.1, by rw [ae_add_ev, h.2, k.2]⟩
theorem ae_sub_dn (h : ae_dn n ρ a x) (k : ae_dn n ρ b y) : ae_dn n ρ (ae_sub a b) (x - y) := ⟨ae_at_wt h.1 (ae_mt_wt _ k.1), by rw [ae_sub_ev, h.2, k.2]⟩
theorem ae_neg_dn (h : ae_dn n ρ a x) (k : Int) : ae_dn n ρ (ae_neg a k) (k - x) := ⟨ae_mt_wt _ h.1, by rw [ae_neg_ev, h.2]⟩
theorem ae_pls_dn (h : ae_dn n ρ a x) (k : Int) : ae_dn n ρ (ae_pls a k) (x + k) := ⟨h.1, by rw [ae_pls_ev, h.2]⟩
theorem ae_scl_dn (h : ae_dn n ρ a x) (m : Int) : ae_dn n ρ (ae_scl m a) (m * x) := by
  refine ⟨?_, by rw [ae_scl_ev, h.2]⟩
  unfold ae_scl
  cases ae_ie m 0 with
  | true => exact trivial
  | false => exact ae_mt_wt _ h.1
end AEL
noncomputable def ae_bg (B : ae_B) (s : Nat) : Option (Int × Int) := List.rec (motive := fun _ => Option (Int × Int)) none (fun q _ r => Bool.rec (motive := fun _ => Option (Int × Int)) r (some q.2) (Nat.beq q.1 s)) B
theorem ae_bg_c (q : Nat × Int × Int) (r : ae_B) (s : Nat) : ae_bg (q :: r) s = bif Nat.beq q.1 s then some q.2 else ae_bg r s := by
  show Bool.rec (motive := fun _ => Option (Int × Int)) (ae_bg r s) (some q.2) (Nat.beq q.1 s) = _
  cases Nat.beq q.1 s <;> rfl
noncomputable def ae_okB (n : Nat) (ρ : Nat → Int) (B : ae_B) : Prop := ∀ q ∈ B, q.1 < n ∧ q.2.1 ≤ ρ q.1 ∧ ρ q.1 ≤ q.2.2
theorem ae_bg_ok {n : Nat} {ρ : Nat → Int} {s : Nat} {q : Int × Int} : ∀ {B : ae_B}, ae_okB n ρ B → ae_bg B s = some q → s < n ∧ q.1 ≤ ρ s ∧ ρ s ≤ q.2
  | [], _, h => by cases h
  | p :: r, hB, h => by
    rw [ae_bg_c] at h
    cases hb : Nat.beq p.1 s with
    | true =>
      rw [hb] at h
      have h1 := Nat.eq_of_beq_eq_true hb
      have h2 := hB p List.mem_cons_self
      cases h
      rw [h1] at h2
      exact h2
    | false =>
      rw [hb] at h
      exact ae_bg_ok (B := r) (fun q hq => hB q (List.mem_cons_of_mem _ hq)) h
noncomputable def ae_ut (B : ae_B) (l : ae_T) : Option Int := List.rec (motive := fun _ => Option Int) (some 0)
  (fun t _ ih => (ae_bg B t.1).bind fun q => ih.bind fun x => some ((bif ae_nn t.2 then t.2 * q.2 else t.2 * q.1) + x)) l
noncomputable def ae_ub (B : ae_B) (e : ae_X) : Option Int := (ae_ut B e.2).bind fun x => some (e.1 + x)
theorem ae_ut_ok {n : Nat} {ρ : Nat → Int} {B : ae_B} (hB : ae_okB n ρ B) : ∀ {r : ae_T} {u : Int}, ae_ut B r = some u → ae_et ρ r ≤ u
  | [], u, h => by cases h; exact Int.le_refl 0
  | t :: r, u, h => by
    obtain ⟨q, h1, h⟩ := Option.bind_eq_some_iff.mp h
    obtain ⟨x, h2, h⟩ := Option.bind_eq_some_iff.mp h
    cases h
    have h3 := ae_ut_ok hB h2
    have h4 := ae_bg_ok hB h1
    show t.2 * ρ t.1 + ae_et ρ r ≤ _
    cases hn : ae_nn t.2 with
    | true =>
      have h5 := Int.mul_le_mul_of_nonneg_left h4.2.2 (ae_nn_iff.mp hn)
      show _ ≤ t.2 * q.2 + x
      omega
    | false =>
      have h6 : 0 ≤ -t.2 := by
        rcases Int.lt_or_le t.2 0 with h7 | h7
        · omega
        · rw [ae_nn_iff.mpr h7] at hn; cases hn
      have h5 := Int.mul_le_mul_of_nonneg_left h4.2.1 h6
      rw [Int.neg_mul, Int.neg_mul] at h5
      show _ ≤ t.2 * q.1 + x
      omega
theorem ae_ub_ok {n : Nat} {ρ : Nat → Int} {B : ae_B} (hB : ae_okB n ρ B) {e : ae_X} {u : Int} (h : ae_ub B e = some u) : ae_ev ρ e ≤ u := by
  obtain ⟨x, h1, h⟩ := Option.bind_eq_some_iff.mp h
  cases h
  have := ae_ut_ok hB h1
  unfold ae_ev
  omega
noncomputable def ae_okF (n : Nat) (ρ : Nat → Int) (F : List ae_X) : Prop := ∀ f ∈ F, ae_wt n f.2 ∧ ae_ev ρ f ≤ 0
/-- a symbol that goes down -/
noncomputable def ae_shr (a b : ae_T) : Bool := ai_any (fun t => ai_any (fun u => Bool.rec (motive := fun _ => Bool) false (Bool.rec (motive := fun _ => Bool) (Bool.rec (motive := fun _ => Bool) true false (ae_nn u.2)) (ae_nn u.2) (ae_nn t.2)) (Nat.beq t.1 u.1)) b) a
noncomputable def ae_u0 (B : ae_B) (e : ae_X) : Bool := match ae_ub B e with
  | some u => ae_le u 0
  | none => false
/-- whether an expression is surely no greater than 0: by bounds, or by bounds and so many facts -/
noncomputable def ae_l0 (B : ae_B) (F : List ae_X) (d : Nat) (e : ae_X) : Bool := Nat.rec (motive := fun _ => ae_X → Bool) (fun e => ae_u0 B e) (fun _ ih e => Bool.rec (motive := fun _ => Bool) (ai_any (fun f => bif ae_shr e.2 f.2 then ih (ae_sub e f) else false) F) true (ae_u0 B e)) d e
theorem ae_u0_ok {n : Nat} {ρ : Nat → Int} {B : ae_B} (hB : ae_okB n ρ B) {e : ae_X} (h : ae_u0 B e = true) : ae_ev ρ e ≤ 0 := by
  unfold ae_u0 at h
  split at h
  · rename_i u hu
    exact Int.le_trans (ae_ub_ok hB hu) (ae_le_iff.mp h)
  · cases h
theorem ae_l0_ok {n : Nat} {ρ : Nat → Int} {B : ae_B} {F : List ae_X} (hB : ae_okB n ρ B) (hF : ae_okF n ρ F) : ∀ {d : Nat} {e : ae_X}, ae_l0 B F d e = true → ae_ev ρ e ≤ 0
  | 0, _, h => ae_u0_ok hB h
  | d + 1, e, h => by
    have h : Bool.rec (motive := fun _ => Bool) (ai_any (fun f => bif ae_shr e.2 f.2 then ae_l0 B F d (ae_sub e f) else false) F) true (ae_u0 B e) = true := h
    cases hu : ae_u0 B e with
    | true => exact ae_u0_ok hB hu
    | false =>
      rw [hu] at h
      have h : ai_any (fun f => bif ae_shr e.2 f.2 then ae_l0 B F d (ae_sub e f) else false) F = true := h
      rw [ai_any_e] at h
      obtain ⟨f, hf, h1⟩ := List.any_eq_true.mp h
      have h1 := ai_bif (show (bif ae_shr e.2 f.2 then ae_l0 B F d (ae_sub e f) else false) = true from h1)
      have h2 := ae_l0_ok hB hF (d := d) h1.2
      rw [ae_sub_ev] at h2
      have := (hF f hf).2
      omega
noncomputable def ae_mn (a b : Option Int) : Option Int := match a with
  | some x => match b with
    | some y => some (bif ae_le x y then x else y)
    | none => some x
  | none => b
theorem ae_mn_ok {a b : Option Int} {x : Int} (ha : ∀ u, a = some u → x ≤ u) (hb : ∀ u, b = some u → x ≤ u) : ∀ u, ae_mn a b = some u → x ≤ u := by
  intro u h
  unfold ae_mn at h
  cases a with
  | none => exact hb u h
  | some p =>
    cases b with
    | none => exact ha u h
    | some q =>
      have h : some (bif ae_le p q then p else q) = some u := h
      cases h1 : ae_le p q with
      | true => rw [h1] at h; exact ha u h
      | false => rw [h1] at h; exact hb u h
/-- the least upper bound that is found -/
noncomputable def ae_uf (B : ae_B) (F : List ae_X) : Nat → ae_X → Option Int
  | 0, e => ae_ub B e
  | d + 1, e => F.foldr (fun f r => bif ae_shr e.2 f.2 then ae_mn (ae_uf B F d (ae_sub e f)) r else r) (ae_ub B e)
theorem ae_uf_ok {n : Nat} {ρ : Nat → Int} {B : ae_B} {F : List ae_X} (hB : ae_okB n ρ B) (hF : ae_okF n ρ F) : ∀ {d : Nat} {e : ae_X} {u : Int}, ae_uf B F d e = some u → ae_ev ρ e ≤ u
  | 0, _, _, h => ae_ub_ok hB h
  | d + 1, e, u, h => by
    have key : ∀ (G : List ae_X), (∀ f ∈ G, f ∈ F) → ∀ u, G.foldr (fun f r => bif ae_shr e.2 f.2 then ae_mn (ae_uf B F d (ae_sub e f)) r else r) (ae_ub B e) = some u → ae_ev ρ e ≤ u := by
      intro G
      induction G with
      | nil => intro _ u h; exact ae_ub_ok hB h
      | cons f G ih =>
        intro hG u h
        have ih := ih (fun g hg => hG g (List.mem_cons_of_mem _ hg))
        rw [List.foldr_cons] at h
        cases hs : ae_shr e.2 f.2 with
        | false => rw [hs] at h; exact ih u h
        | true =>
          rw [hs] at h
          refine ae_mn_ok (fun v hv => ?_) ih u h
          have h2 := ae_uf_ok hB hF (d := d) hv
          rw [ae_sub_ev] at h2
          have := (hF f (hG f List.mem_cons_self)).2
          omega
    exact key F (fun _ h => h) u h
noncomputable def ae_hi (k : ae_K) (e : ae_X) : Option Int := ae_uf k.2.1 k.2.2.1 2 e
noncomputable def ae_lo (k : ae_K) (e : ae_X) : Option Int := (ae_uf k.2.1 k.2.2.1 2 (ae_neg e 0)).bind fun u => some (-u)
noncomputable def ae_w32 (x : Int) : Int := (Int32.ofInt x).toInt
noncomputable def ae_okD (n : Nat) (ρ : Nat → Int) (D : List (ae_X × Nat)) : Prop := ∀ d ∈ D, ae_wt n d.1.2 ∧ d.2 < n ∧ ρ d.2 = ae_w32 (ae_ev ρ d.1)
noncomputable def ae_okK (ρ : Nat → Int) (k : ae_K) : Prop := ae_okB k.1 ρ k.2.1 ∧ ae_okF k.1 ρ k.2.2.1 ∧ ae_okD k.1 ρ k.2.2.2
theorem ae_hi_ok {ρ : Nat → Int} {k : ae_K} (h : ae_okK ρ k) {e : ae_X} {u : Int} (q : ae_hi k e = some u) : ae_ev ρ e ≤ u := ae_uf_ok h.1 h.2.1 q
theorem ae_lo_ok {ρ : Nat → Int} {k : ae_K} (h : ae_okK ρ k) {e : ae_X} {u : Int} (q : ae_lo k e = some u) : u ≤ ae_ev ρ e := by
  obtain ⟨v, h1, h2⟩ := Option.bind_eq_some_iff.mp q
  cases h2
  have := ae_uf_ok h.1 h.2.1 h1
  rw [ae_neg_ev] at this
  omega
noncomputable def ae_z (k : ae_K) (e : ae_X) : Bool := ae_l0 k.2.1 k.2.2.1 2 e
theorem ae_z_ok {ρ : Nat → Int} {k : ae_K} (h : ae_okK ρ k) {e : ae_X} (q : ae_z k e = true) : ae_ev ρ e ≤ 0 := ae_l0_ok h.1 h.2.1 q
/-- whether an expression surely lies from lo to hi -/
noncomputable def ae_rg (k : ae_K) (e : ae_X) (lo hi : Int) : Bool := ae_z k (ae_pls e (-hi)) && ae_z k (ae_neg e lo)
theorem ae_rg_ok {ρ : Nat → Int} {k : ae_K} (h : ae_okK ρ k) {e : ae_X} {lo hi : Int} (q : ae_rg k e lo hi = true) : lo ≤ ae_ev ρ e ∧ ae_ev ρ e ≤ hi := by
  unfold ae_rg at q
  rw [Bool.and_eq_true] at q
  have h1 := ae_z_ok h q.1
  have h2 := ae_z_ok h q.2
  rw [ae_pls_ev] at h1
  rw [ae_neg_ev] at h2
  omega
noncomputable def ae_nt (B : ae_B) (l : ae_T) : ae_X := List.rec (motive := fun _ => ae_X) (0, [])
  (fun t _ ih => match ae_bg B t.1 with
    | some q => bif ae_ie q.1 q.2 then (ih.1 + t.2 * q.1, ih.2) else (ih.1, t :: ih.2)
    | none => (ih.1, t :: ih.2)) l
theorem ae_nt_c (B : ae_B) (t : Nat × Int) (r : ae_T) : ae_nt B (t :: r) = match ae_bg B t.1 with
    | some q => bif ae_ie q.1 q.2 then ((ae_nt B r).1 + t.2 * q.1, (ae_nt B r).2) else ((ae_nt B r).1, t :: (ae_nt B r).2)
    | none => ((ae_nt B r).1, t :: (ae_nt B r).2) := rfl
/-- symbols of one value are numbers -/
noncomputable def ae_nr (k : ae_K) (e : ae_X) : ae_X := match e with
  | (c, []) => (c, [])
  | (c, t :: r) => (c + (ae_nt k.2.1 (t :: r)).1, (ae_nt k.2.1 (t :: r)).2)
theorem ae_nr_e (k : ae_K) (e : ae_X) : ae_nr k e = (e.1 + (ae_nt k.2.1 e.2).1, (ae_nt k.2.1 e.2).2) := by
  obtain ⟨c, l⟩ := e
  cases l with
  | nil => show (c, ([] : ae_T)) = (c + 0, []); rw [Int.add_zero]
  | cons t r => rfl
theorem ae_nt_ok {n : Nat} {ρ : Nat → Int} {B : ae_B} (hB : ae_okB n ρ B) : ∀ (r : ae_T), (ae_nt B r).1 + ae_et ρ (ae_nt B r).2 = ae_et ρ r ∧ (∀ m, ae_wt m r → ae_wt m (ae_nt B r).2)
  | [] => ⟨rfl, fun _ _ => trivial⟩
  | t :: r => by
    have ih := ae_nt_ok hB r
    rw [ae_nt_c]
    split
    · rename_i q hq
      have h1 := ae_bg_ok hB hq
      cases hb : ae_ie q.1 q.2 with
      | true =>
        have h2 := ae_ie_ok hb
        have h3 : ρ t.1 = q.1 := by omega
        refine ⟨?_, fun m h => ih.2 m h.2⟩
        show (ae_nt B r).1 + t.2 * q.1 + ae_et ρ (ae_nt B r).2 = t.2 * ρ t.1 + ae_et ρ r
        rw [h3]; omega
      | false =>
        refine ⟨?_, fun m h => ⟨h.1, ih.2 m h.2⟩⟩
        show (ae_nt B r).1 + (t.2 * ρ t.1 + ae_et ρ (ae_nt B r).2) = t.2 * ρ t.1 + ae_et ρ r
        omega
    · refine ⟨?_, fun m h => ⟨h.1, ih.2 m h.2⟩⟩
      show (ae_nt B r).1 + (t.2 * ρ t.1 + ae_et ρ (ae_nt B r).2) = t.2 * ρ t.1 + ae_et ρ r
      omega
theorem ae_nr_dn {n : Nat} {ρ : Nat → Int} {k : ae_K} (h : ae_okK ρ k) {e : ae_X} {x : Int} (q : ae_dn n ρ e x) : ae_dn n ρ (ae_nr k e) x := by
  have h1 := ae_nt_ok h.1 e.2
  refine ⟨by rw [ae_nr_e]; exact h1.2 n q.1, ?_⟩
  have h2 := q.2
  unfold ae_ev at h2
  rw [ae_nr_e]
  show e.1 + (ae_nt k.2.1 e.2).1 + ae_et ρ (ae_nt k.2.1 e.2).2 = x
  omega
/-- a nearer bound of a symbol, out of e being no greater than 0 -/
noncomputable def ae_t1 (B : ae_B) (e : ae_X) (t : Nat × Int) : Option (Nat × Int × Int) :=
  (ae_bg B t.1).bind fun q => (ae_ub B (ae_neg (ae_sub e (0, [t])) 0)).bind fun u =>
    bif ae_ie t.2 1 then (bif ae_le q.2 u then none else some (t.1, q.1, u))
    else bif ae_ie t.2 (-1) then (bif ae_le (-u) q.1 then none else some (t.1, -u, q.2))
    else none
theorem ae_t1_ok {n : Nat} {ρ : Nat → Int} {B : ae_B} (hB : ae_okB n ρ B) {e : ae_X} (he : ae_ev ρ e ≤ 0) {t : Nat × Int} {q : Nat × Int × Int} (h : ae_t1 B e t = some q) : q.1 < n ∧ q.2.1 ≤ ρ q.1 ∧ ρ q.1 ≤ q.2.2 := by
  obtain ⟨p, h1, h⟩ := Option.bind_eq_some_iff.mp h
  obtain ⟨u, h2, h⟩ := Option.bind_eq_some_iff.mp h
  have h3 := ae_bg_ok hB h1
  have h4 := ae_ub_ok hB h2
  rw [ae_neg_ev, ae_sub_ev] at h4
  have h5 : ae_ev ρ (0, [t]) = t.2 * ρ t.1 := by show (0 : Int) + (t.2 * ρ t.1 + 0) = _; omega
  rw [h5] at h4
  cases c1 : ae_ie t.2 1 with
  | true =>
    rw [c1] at h
    rw [ae_ie_ok c1, Int.one_mul] at h4
    cases c2 : ae_le p.2 u with
    | true => rw [c2] at h; cases h
    | false =>
      rw [c2] at h
      cases h
      exact ⟨h3.1, h3.2.1, by show ρ t.1 ≤ u; omega⟩
  | false =>
    rw [c1] at h
    cases c3 : ae_ie t.2 (-1) with
    | true =>
      rw [c3] at h
      rw [ae_ie_ok c3] at h4
      cases c2 : ae_le (-u) p.1 with
      | true => rw [c2] at h; cases h
      | false =>
        rw [c2] at h
        cases h
        exact ⟨h3.1, by show -u ≤ ρ t.1; omega, h3.2.2⟩
    | false => rw [c3] at h; cases h
noncomputable def ae_one (r : ae_T) : Bool := match r with
  | [t] => ae_ie t.2 1 || ae_ie t.2 (-1)
  | _ => false
/-- what is known when e is no greater than 0 besides: none or one -/
noncomputable def ae_a2 (k : ae_K) (e : ae_X) : List ae_K :=
  bif ae_u0 k.2.1 e then [k]
  else bif ae_z k (ae_neg e 1) then []
  else bif ai_any (fun q => !(ae_le q.2.1 q.2.2)) (ai_fm (ae_t1 k.2.1 e) e.2) then []
  else [(k.1, ai_app (ai_fm (ae_t1 k.2.1 e) e.2) k.2.1, bif ae_one e.2 then k.2.2.1 else e :: k.2.2.1, k.2.2.2)]
noncomputable def ae_a1 (k : ae_K) (e : ae_X) : List ae_K := match e with
  | (c, []) => bif ae_le c 0 then [k] else []
  | (c, t :: r) => ae_a2 k (c, t :: r)
noncomputable def ae_as (k : ae_K) (e0 : ae_X) : List ae_K := ae_a1 k (ae_nr k e0)
theorem ae_as_ok {ρ : Nat → Int} {k : ae_K} (h : ae_okK ρ k) {e : ae_X} {x : Int} (q : ae_dn k.1 ρ e x) (hx : x ≤ 0) : ∃ k' ∈ ae_as k e, ae_okK ρ k' ∧ k'.1 = k.1 := by
  have hq := ae_nr_dn h q
  generalize he : ae_nr k e = e1 at hq
  unfold ae_as
  rw [he]
  have hev : ae_ev ρ e1 ≤ 0 := by rw [hq.2]; exact hx
  obtain ⟨c1, l1⟩ := e1
  cases l1 with
  | nil =>
    have h1 : ae_ev ρ (c1, ([] : ae_T)) = c1 + 0 := rfl
    show ∃ k' ∈ (bif ae_le c1 0 then [k] else []), _
    rw [ae_le_iff.mpr (show c1 ≤ 0 by omega)]
    exact ⟨k, List.mem_singleton.mpr rfl, h, rfl⟩
  | cons t1 r1 =>
  show ∃ k' ∈ ae_a2 k (c1, t1 :: r1), _
  clear he
  generalize (c1, t1 :: r1) = e1 at hq hev
  unfold ae_a2
  rw [ai_app_e, ai_fm_e, ai_any_e]
  cases h1 : ae_u0 k.2.1 e1 with
  | true => exact ⟨k, List.mem_singleton.mpr rfl, h, rfl⟩
  | false =>
    cases h2 : ae_z k (ae_neg e1 1) with
    | true =>
      have := ae_z_ok h h2
      rw [ae_neg_ev] at this
      exact absurd hev (by omega)
    | false =>
      have hb : ∀ p ∈ e1.2.filterMap (ae_t1 k.2.1 e1), p.1 < k.1 ∧ p.2.1 ≤ ρ p.1 ∧ ρ p.1 ≤ p.2.2 := by
        intro p hp
        obtain ⟨t, -, ht⟩ := List.mem_filterMap.mp hp
        exact ae_t1_ok h.1 hev ht
      cases h3 : (e1.2.filterMap (ae_t1 k.2.1 e1)).any (fun q => !(ae_le q.2.1 q.2.2)) with
      | true =>
        obtain ⟨p, hp, hp2⟩ := List.any_eq_true.mp h3
        have h4 := hb p hp
        have h5 : ae_le p.2.1 p.2.2 = true := ae_le_iff.mpr (Int.le_trans h4.2.1 h4.2.2)
        rw [h5] at hp2
        cases hp2
      | false =>
        refine ⟨_, List.mem_singleton.mpr rfl, ⟨?_, ?_, h.2.2⟩, rfl⟩
        · intro p hp
          rcases List.mem_append.mp hp with hp | hp
          · exact hb p hp
          · exact h.1 p hp
        · intro f hf
          cases h6 : ae_one e1.2 with
          | true => rw [h6] at hf; exact h.2.1 f hf
          | false =>
            rw [h6] at hf
            rcases List.mem_cons.mp hf with rfl | hf
            · exact ⟨hq.1, hev⟩
            · exact h.2.1 f hf
noncomputable def ae_ask (k : ae_K) : List ae_X → List ae_K
  | [] => [k]
  | e :: r => (ae_as k e).flatMap fun k' => ae_ask k' r
theorem ae_ask_ok {ρ : Nat → Int} : ∀ {es : List ae_X} {k : ae_K}, ae_okK ρ k → (∀ e ∈ es, ae_wt k.1 e.2 ∧ ae_ev ρ e ≤ 0) → ∃ k' ∈ ae_ask k es, ae_okK ρ k' ∧ k'.1 = k.1
  | [], k, h, _ => ⟨k, List.mem_singleton.mpr rfl, h, rfl⟩
  | e :: r, k, h, q => by
    obtain ⟨q1, q2⟩ := q e List.mem_cons_self
    obtain ⟨k1, m1, h1, n1⟩ := ae_as_ok h ⟨q1, rfl⟩ q2
    obtain ⟨k2, m2, h2, n2⟩ := ae_ask_ok (es := r) h1 (fun e he => by rw [n1]; exact q e (List.mem_cons_of_mem _ he))
    exact ⟨k2, List.mem_flatMap.mpr ⟨k1, m1, m2⟩, h2, n2.trans n1⟩
/-- how an int compares with 0 -/
noncomputable def ae_c0 (c : ClassFile.Cond) (x : Int) : Bool := match c with
  | .eq => decide (x = 0)
  | .ne => decide (¬ x = 0)
  | .lt => decide (x < 0)
  | .ge => decide (0 ≤ x)
  | .gt => decide (0 < x)
  | .le => decide (x ≤ 0)
/-- where e compares so with 0, and where not -/
noncomputable def ae_cd (k : ae_K) (e : ae_X) (c : ClassFile.Cond) : List ae_K × List ae_K := match c with
  | .lt => (ae_as k (ae_pls e 1), ae_as k (ae_neg e 0))
  | .ge => (ae_as k (ae_neg e 0), ae_as k (ae_pls e 1))
  | .gt => (ae_as k (ae_neg e 1), ae_as k e)
  | .le => (ae_as k e, ae_as k (ae_neg e 1))
  | .eq => (ae_ask k [e, ae_neg e 0], ae_as k (ae_pls e 1) ++ ae_as k (ae_neg e 1))
  | .ne => (ae_as k (ae_pls e 1) ++ ae_as k (ae_neg e 1), ae_ask k [e, ae_neg e 0])
theorem ae_cd_ok {ρ : Nat → Int} {k : ae_K} (h : ae_okK ρ k) {e : ae_X} {x : Int} (q : ae_dn k.1 ρ e x) (c : ClassFile.Cond) : ∃ k' ∈ (bif ae_c0 c x then (ae_cd k e c).1 else (ae_cd k e c).2), ae_okK ρ k' ∧ k'.1 = k.1 := by
  have hlt : x < 0 → ∃ k' ∈ ae_as k (ae_pls e 1), ae_okK ρ k' ∧ k'.1 = k.1 := fun hx => ae_as_ok h (ae_pls_dn q 1) (by omega)
  have hge : 0 ≤ x → ∃ k' ∈ ae_as k (ae_neg e 0), ae_okK ρ k' ∧ k'.1 = k.1 := fun hx => ae_as_ok h (ae_neg_dn q 0) (by omega)
  have hgt : 0 < x → ∃ k' ∈ ae_as k (ae_neg e 1), ae_okK ρ k' ∧ k'.1 = k.1 := fun hx => ae_as_ok h (ae_neg_dn q 1) (by omega)
  have hle : x ≤ 0 → ∃ k' ∈ ae_as k e, ae_okK ρ k' ∧ k'.1 = k.1 := fun hx => ae_as_ok h q hx
  have heq : x = 0 → ∃ k' ∈ ae_ask k [e, ae_neg e 0], ae_okK ρ k' ∧ k'.1 = k.1 := fun hx => ae_ask_ok h (fun f hf => by
    rcases List.mem_cons.mp hf with rfl | hf
    · exact ⟨q.1, by rw [q.2]; omega⟩
    · rw [List.mem_singleton.mp hf]
      have := ae_neg_dn q 0
      exact ⟨this.1, by rw [this.2]; omega⟩)
  have hne : ¬ x = 0 → ∃ k' ∈ ae_as k (ae_pls e 1) ++ ae_as k (ae_neg e 1), ae_okK ρ k' ∧ k'.1 = k.1 := fun hx => by
    rcases Int.lt_or_le x 0 with h1 | h1
    · obtain ⟨k', m, r⟩ := hlt h1
      exact ⟨k', List.mem_append_left _ m, r⟩
    · obtain ⟨k', m, r⟩ := hgt (by omega)
      exact ⟨k', List.mem_append_right _ m, r⟩
  cases c with
  | lt =>
    by_cases hx : x < 0
    · rw [show ae_c0 .lt x = true from decide_eq_true hx]; exact hlt hx
    · rw [show ae_c0 .lt x = false from decide_eq_false hx]; exact hge (by omega)
  | ge =>
    by_cases hx : 0 ≤ x
    · rw [show ae_c0 .ge x = true from decide_eq_true hx]; exact hge hx
    · rw [show ae_c0 .ge x = false from decide_eq_false hx]; exact hlt (by omega)
  | gt =>
    by_cases hx : 0 < x
    · rw [show ae_c0 .gt x = true from decide_eq_true hx]; exact hgt hx
    · rw [show ae_c0 .gt x = false from decide_eq_false hx]; exact hle (by omega)
  | le =>
    by_cases hx : x ≤ 0
    · rw [show ae_c0 .le x = true from decide_eq_true hx]; exact hle hx
    · rw [show ae_c0 .le x = false from decide_eq_false hx]; exact hgt (by omega)
  | eq =>
    by_cases hx : x = 0
    · rw [show ae_c0 .eq x = true from decide_eq_true hx]; exact heq hx
    · rw [show ae_c0 .eq x = false from decide_eq_false hx]; exact hne hx
  | ne =>
    by_cases hx : x = 0
    · rw [show ae_c0 .ne x = false from decide_eq_false (fun q => q hx)]; exact heq hx
    · rw [show ae_c0 .ne x = true from decide_eq_true hx]; exact hne hx
/-- a new symbol -/
noncomputable def ae_new (k : ae_K) (lo hi : Int) : ae_K := (k.1 + 1, (k.1, lo, hi) :: k.2.1, k.2.2.1, k.2.2.2)
noncomputable def ae_up (ρ : Nat → Int) (n : Nat) (x : Int) : Nat → Int := fun s => bif Nat.beq s n then x else ρ s
theorem ae_up_at (ρ : Nat → Int) (n : Nat) (x : Int) : ae_up ρ n x n = x := by unfold ae_up; rw [Nat.beq_refl]; rfl
theorem ae_up_ag (ρ : Nat → Int) (n : Nat) (x : Int) : ae_ag n ρ (ae_up ρ n x) := by
  intro s hs
  unfold ae_up
  cases h : Nat.beq s n with
  | true => exact absurd (Nat.eq_of_beq_eq_true h) (by omega)
  | false => rfl
theorem ae_okK_ext {ρ ρ' : Nat → Int} {k : ae_K} (h : ae_okK ρ k) (a : ae_ag k.1 ρ ρ') : ae_okK ρ' k :=
  ⟨fun q hq => by have := h.1 q hq; rw [a q.1 this.1]; exact this, fun f hf => by have := h.2.1 f hf; rw [ae_ev_ag a this.1]; exact this, fun d hd => by have := h.2.2 d hd; rw [a d.2 this.2.1, ae_ev_ag a this.1]; exact this⟩
theorem ae_new_ok {ρ : Nat → Int} {k : ae_K} (h : ae_okK ρ k) {lo hi x : Int} (h1 : lo ≤ x) (h2 : x ≤ hi) : ae_okK (ae_up ρ k.1 x) (ae_new k lo hi) := by
  have h3 := ae_okK_ext h (ae_up_ag ρ k.1 x)
  refine ⟨fun q hq => ?_, fun f hf => ⟨ae_wt_le (Nat.le_succ _) (h3.2.1 f hf).1, (h3.2.1 f hf).2⟩, fun d hd => ⟨ae_wt_le (Nat.le_succ _) (h3.2.2 d hd).1, Nat.lt_succ_of_lt (h3.2.2 d hd).2.1, (h3.2.2 d hd).2.2⟩⟩
  rcases List.mem_cons.mp hq with rfl | hq
  · exact ⟨Nat.lt_succ_self _, by rw [ae_up_at]; exact h1, by rw [ae_up_at]; exact h2⟩
  · exact ⟨Nat.lt_succ_of_lt (h3.1 q hq).1, (h3.1 q hq).2⟩

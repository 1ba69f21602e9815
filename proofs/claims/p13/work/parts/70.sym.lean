/-! A reading of runs by marks: values are (0, n) the int n, (1, k) the script's k-th, (2) some int, (3, n) the long n, (4) some long, (5, k) the place k, (6) null, (7, k) the script's k-th as a long, (8, k, n) how the script's k-th compares with the int n, (9, n) the int n as a long -/
abbrev rm_V : Type := Nat × Nat × Nat
abbrev rm_B : Type := List (Nat × Nat)
abbrev rm_L : Type := List (Nat × rm_V)
abbrev rm_E : Type := (Nat × Nat × List (Nat × rm_V)) ⊕ (Nat × List rm_V)
noncomputable def rm_ok (xs : Nat → Int32) (a : rm_V) (v : Value) : Prop := match a.1 with
  | 0 => v = .int (nI a.2.1)
  | 1 => v = .int (xs a.2.1)
  | 2 => ∃ x, v = .int x
  | 3 => v = .long (lN a.2.1)
  | 4 => ∃ x, v = .long x
  | 5 => v = .ref a.2.1
  | 6 => v = .null
  | 7 => v = .long (xs a.2.1).toInt64
  | 8 => v = .int (lg_cmp (xs a.2.1).toInt64 (nI a.2.2).toInt64)
  | 9 => v = .long (nI a.2.1).toInt64
  | _ => False
noncomputable def rm_isI (a : rm_V) : Bool := match a.1 with
  | 0 => true
  | 1 => true
  | 2 => true
  | 8 => true
  | _ => false
noncomputable def rm_isJ (a : rm_V) : Bool := match a.1 with
  | 3 => true
  | 4 => true
  | 7 => true
  | 9 => true
  | _ => false
noncomputable def rm_isR (a : rm_V) : Bool := Nat.beq a.1 5
noncomputable def rm_ct (a : rm_V) : Nat := bif rm_isJ a then 2 else 1
noncomputable def rm_all (xs : Nat → Int32) : List rm_V → List Value → Prop
  | [], [] => True
  | a :: s, v :: t => rm_ok xs a v ∧ rm_all xs s t
  | _, _ => False
noncomputable def rm_lvr (xs : Nat → Int32) : rm_L → am_L → Prop
  | [], [] => True
  | a :: s, v :: t => a.1 = v.1 ∧ rm_ok xs a.2 v.2 ∧ rm_lvr xs s t
  | _, _ => False
theorem rm_ok_I {xs : Nat → Int32} {a : rm_V} {v : Value} (h : rm_ok xs a v) (hi : rm_isI a = true) : ∃ x, v = .int x := by
  obtain ⟨t, n, m⟩ := a
  unfold rm_ok at h
  unfold rm_isI at hi
  match t, h, hi with
  | 0, h, _ => exact ⟨_, h⟩
  | 1, h, _ => exact ⟨_, h⟩
  | 2, h, _ => exact h
  | 8, h, _ => exact ⟨_, h⟩
  | 3, _, hi => cases hi
  | 4, _, hi => cases hi
  | 5, _, hi => cases hi
  | 6, _, hi => cases hi
  | 7, _, hi => cases hi
  | t + 9, _, hi => cases hi
theorem rm_ok_J {xs : Nat → Int32} {a : rm_V} {v : Value} (h : rm_ok xs a v) (hi : rm_isJ a = true) : ∃ x, v = .long x := by
  obtain ⟨t, n, m⟩ := a
  unfold rm_ok at h
  unfold rm_isJ at hi
  match t, h, hi with
  | 3, h, _ => exact ⟨_, h⟩
  | 4, h, _ => exact h
  | 7, h, _ => exact ⟨_, h⟩
  | 9, h, _ => exact ⟨_, h⟩
  | 0, _, hi => cases hi
  | 1, _, hi => cases hi
  | 2, _, hi => cases hi
  | 5, _, hi => cases hi
  | 6, _, hi => cases hi
  | 8, _, hi => cases hi
  | t + 10, _, hi => cases hi
theorem rm_ok_R {xs : Nat → Int32} {a : rm_V} {v : Value} (h : rm_ok xs a v) (hi : rm_isR a = true) : v = .ref a.2.1 := by
  obtain ⟨t, n, m⟩ := a
  obtain rfl : t = 5 := Nat.eq_of_beq_eq_true hi
  exact h
theorem rm_ok_cat {xs : Nat → Int32} {a : rm_V} {v : Value} (h : rm_ok xs a v) : v.category = rm_ct a := by
  obtain ⟨t, n, m⟩ := a
  unfold rm_ok at h
  match t, h with
  | 0, h => rw [h]; rfl
  | 1, h => rw [h]; rfl
  | 2, h => obtain ⟨x, h⟩ := h; rw [h]; rfl
  | 3, h => rw [h]; rfl
  | 4, h => obtain ⟨x, h⟩ := h; rw [h]; rfl
  | 5, h => rw [h]; rfl
  | 6, h => rw [h]; rfl
  | 7, h => rw [h]; rfl
  | 8, h => rw [h]; rfl
  | 9, h => rw [h]; rfl
  | t + 10, h => exact absurd h id
/-- an order-keeping number of an int -/
noncomputable def rm_key (x : Int32) : Nat := (x.toBitVec.toNat + 2147483648) % 4294967296
theorem rm_key_int (x : Int32) : (rm_key x : Int) = x.toInt + 2147483648 := by
  have h1 : x.toInt = x.toBitVec.toInt := rfl
  have h2 := x.toBitVec.isLt
  rw [h1, BitVec.toInt_eq_toNat_cond]
  unfold rm_key
  split <;> omega
theorem rm_key_lt (x y : Int32) : x < y ↔ rm_key x < rm_key y := by
  have h1 := rm_key_int x
  have h2 := rm_key_int y
  rw [Int32.lt_iff_toInt_lt]
  omega
theorem rm_key_le (x y : Int32) : x ≤ y ↔ rm_key x ≤ rm_key y := by
  have h1 := rm_key_int x
  have h2 := rm_key_int y
  rw [Int32.le_iff_toInt_le]
  omega
theorem rm_key_eq (x y : Int32) : x = y ↔ rm_key x = rm_key y := by
  have h1 := rm_key_int x
  have h2 := rm_key_int y
  rw [← Int32.toInt_inj]
  omega
theorem rm_key_bd (x : Int32) : rm_key x < 4294967296 := Nat.mod_lt _ (by decide)
noncomputable def rm_lk (n : Nat) : Nat := (n + 2147483648) % 4294967296
theorem rm_key_nI (n : Nat) : rm_key (nI n) = rm_lk n := by
  have h : (nI n).toBitVec.toNat = n % 4294967296 := by
    show (BitVec.ofNat 32 n).toNat = _
    rw [BitVec.toNat_ofNat]
  unfold rm_key rm_lk
  rw [h]
  omega
noncomputable def rm_tn (x : Int32) : Nat := x.toBitVec.toNat
theorem rm_nI_tn (x : Int32) : nI (rm_tn x) = x := by
  rw [rm_key_eq, rm_key_nI]
  rfl
noncomputable def rm_in (xs : Nat → Int32) (b : rm_B) : Prop := ∀ k q, b[k]? = some q → q.1 ≤ rm_key (xs k) ∧ rm_key (xs k) ≤ q.2
/-- those of a box whose k-th lies from lo to hi: none or one -/
noncomputable def rm_cut (b : rm_B) (k lo hi : Nat) : List rm_B := match b[k]? with
  | some q => bif Nat.ble (Nat.max q.1 lo) (Nat.min q.2 hi) then [b.set k (Nat.max q.1 lo, Nat.min q.2 hi)] else []
  | none => [b]
theorem rm_cut_in {xs : Nat → Int32} {b : rm_B} {k lo hi : Nat} (h : rm_in xs b) (h1 : lo ≤ rm_key (xs k)) (h2 : rm_key (xs k) ≤ hi) : ∃ c ∈ rm_cut b k lo hi, rm_in xs c := by
  unfold rm_cut
  cases hq : b[k]? with
  | none => exact ⟨b, List.mem_singleton.mpr rfl, h⟩
  | some q =>
    have h3 := h k q hq
    have h4 : Nat.max q.1 lo ≤ rm_key (xs k) := Nat.max_le.mpr ⟨h3.1, h1⟩
    have h5 : rm_key (xs k) ≤ Nat.min q.2 hi := Nat.le_min.mpr ⟨h3.2, h2⟩
    have h6 : Nat.ble (Nat.max q.1 lo) (Nat.min q.2 hi) = true := Nat.ble_eq_true_of_le (Nat.le_trans h4 h5)
    dsimp only
    rw [h6]
    refine ⟨_, List.mem_singleton.mpr rfl, fun j p hj => ?_⟩
    by_cases hk : k = j
    · subst hk
      have hl := (List.getElem?_eq_some_iff.mp hq).1
      rw [List.getElem?_set_self hl] at hj
      cases hj
      exact ⟨h4, h5⟩
    · rw [List.getElem?_set_ne hk] at hj
      exact h j p hj
/-- a script's value that a box pins is a number -/
noncomputable def rm_norm (b : rm_B) (a : rm_V) : rm_V := bif Nat.beq a.1 1 then (match b[a.2.1]? with
  | some q => bif Nat.beq q.1 q.2 then (0, rm_lk q.1, 0) else a
  | none => a) else a
theorem rm_lk_lk {n : Nat} (h : n < 4294967296) : rm_lk (rm_lk n) = n := by unfold rm_lk; omega
theorem rm_norm_ok {xs : Nat → Int32} {b : rm_B} {a : rm_V} {v : Value} (hb : rm_in xs b) (h : rm_ok xs a v) : rm_ok xs (rm_norm b a) v := by
  unfold rm_norm
  cases h1 : Nat.beq a.1 1 with
  | false => exact h
  | true =>
    obtain ⟨t, n, m⟩ := a
    obtain rfl : t = 1 := Nat.eq_of_beq_eq_true h1
    show rm_ok xs (match b[n]? with
      | some q => bif Nat.beq q.1 q.2 then (0, rm_lk q.1, 0) else (1, n, m)
      | none => (1, n, m)) v
    cases hq : b[n]? with
    | none => exact h
    | some q =>
      dsimp only
      cases h2 : Nat.beq q.1 q.2 with
      | false => exact h
      | true =>
        have h3 := hb n q hq
        have h4 := Nat.eq_of_beq_eq_true h2
        have h5 : rm_key (xs n) = q.1 := by omega
        have h6 := rm_key_bd (xs n)
        show v = .int (nI (rm_lk q.1))
        have h7 : v = .int (xs n) := h
        have h8 : xs n = nI (rm_lk q.1) := by rw [rm_key_eq, rm_key_nI, rm_lk_lk (by omega), h5]
        rw [h7, h8]
theorem rm_norm_isI {b : rm_B} {a : rm_V} (h : rm_isI a = true) : rm_isI (rm_norm b a) = true := by
  unfold rm_norm
  cases h1 : Nat.beq a.1 1 with
  | false => exact h
  | true =>
    dsimp only [cond_true]
    split
    · cases h2 : Nat.beq _ _ with
      | false => exact h
      | true => rfl
    · exact h

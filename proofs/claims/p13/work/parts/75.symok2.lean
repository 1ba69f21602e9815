section RS
variable {L own nL a b pc : Nat} {ini : Bool} {xs : Nat → Int32} {bx : rm_B} {lv : rm_L} {st : List rm_V} {h : List rm_E} {lv' : am_L} {st' : List Value} {h' : List am_E} {outs : List rm_R5}
theorem rm_low {k q : Nat} (hb : rm_in xs bx) (h1 : rm_key (xs k) < q) : ∃ z ∈ (bif Nat.beq q 0 then [] else rm_cut bx k 0 (q - 1)), rm_in xs z := by
  cases h2 : Nat.beq q 0 with
  | true => have := Nat.eq_of_beq_eq_true h2; omega
  | false => exact rm_cut_in hb (Nat.zero_le _) (by omega)
theorem rm_high {k q : Nat} (hb : rm_in xs bx) (h1 : q ≤ rm_key (xs k)) : ∃ z ∈ rm_cut bx k q 4294967295, rm_in xs z := rm_cut_in hb h1 (by have := rm_key_bd (xs k); omega)
theorem rm_apl {x y : List rm_B} (h : ∃ z ∈ x, rm_in xs z) : ∃ z ∈ x ++ y, rm_in xs z := by
  obtain ⟨z, h1, h2⟩ := h
  exact ⟨z, List.mem_append_left _ h1, h2⟩
theorem rm_apr {x y : List rm_B} (h : ∃ z ∈ y, rm_in xs z) : ∃ z ∈ x ++ y, rm_in xs z := by
  obtain ⟨z, h1, h2⟩ := h
  exact ⟨z, List.mem_append_right _ h1, h2⟩
theorem rm_cmp_ok (c : ClassFile.Cond) (k : Nat) (w : Int32) (hb : rm_in xs bx) : (am_cm2 c (xs k) w = true → ∃ z ∈ (rm_cmp bx k (rm_key w) c).1, rm_in xs z) ∧ (am_cm2 c (xs k) w = false → ∃ z ∈ (rm_cmp bx k (rm_key w) c).2, rm_in xs z) := by
  have e1 := rm_key_lt (xs k) w
  have e2 := rm_key_lt w (xs k)
  have e3 := rm_key_le (xs k) w
  have e4 := rm_key_le w (xs k)
  have e5 := rm_key_eq (xs k) w
  generalize rm_key w = kq at *
  cases c with
  | eq =>
    refine ⟨fun hq => ?_, fun hq => ?_⟩
    · have := e5.mp (of_decide_eq_true hq)
      exact rm_cut_in hb (by omega) (by omega)
    · have h1 : ¬ xs k = w := of_decide_eq_false hq
      rcases Nat.lt_trichotomy (rm_key (xs k)) kq with h2 | h2 | h2
      · exact rm_apl (rm_low hb h2)
      · exact absurd (e5.mpr h2) h1
      · exact rm_apr (rm_high hb h2)
  | ne =>
    refine ⟨fun hq => ?_, fun hq => ?_⟩
    · have h1 : ¬ xs k = w := of_decide_eq_true hq
      rcases Nat.lt_trichotomy (rm_key (xs k)) kq with h2 | h2 | h2
      · exact rm_apl (rm_low hb h2)
      · exact absurd (e5.mpr h2) h1
      · exact rm_apr (rm_high hb h2)
    · have h0 : ¬ ¬ xs k = w := of_decide_eq_false hq
      have h1 : xs k = w := Decidable.of_not_not h0
      have := e5.mp h1
      exact rm_cut_in hb (by omega) (by omega)
  | lt =>
    refine ⟨fun hq => ?_, fun hq => ?_⟩
    · exact rm_low hb (e1.mp (of_decide_eq_true hq))
    · have h1 : ¬ xs k < w := of_decide_eq_false hq
      exact rm_high hb (Nat.not_lt.mp (fun q => h1 (e1.mpr q)))
  | ge =>
    refine ⟨fun hq => ?_, fun hq => ?_⟩
    · exact rm_high hb (e4.mp (of_decide_eq_true hq))
    · have h1 : ¬ w ≤ xs k := of_decide_eq_false hq
      exact rm_low hb (Nat.not_le.mp (fun q => h1 (e4.mpr q)))
  | gt =>
    refine ⟨fun hq => ?_, fun hq => ?_⟩
    · exact rm_high hb (e2.mp (of_decide_eq_true hq))
    · have h1 : ¬ w < xs k := of_decide_eq_false hq
      exact rm_cut_in hb (Nat.zero_le _) (Nat.not_lt.mp (fun q => h1 (e2.mpr q)))
  | le =>
    refine ⟨fun hq => ?_, fun hq => ?_⟩
    · exact rm_cut_in hb (Nat.zero_le _) (e3.mp (of_decide_eq_true hq))
    · have h1 : ¬ xs k ≤ w := of_decide_eq_false hq
      exact rm_high hb (Nat.not_le.mp (fun q => h1 (e3.mpr q)))
theorem rm_ck_ok (c : ClassFile.Cond) (x y : Int32) : am_cm2 c x y = rm_ck c (rm_key x) (rm_key y) := by
  have e1 := rm_key_lt x y
  have e2 := rm_key_lt y x
  have e3 := rm_key_le x y
  have e4 := rm_key_le y x
  have e5 := rm_key_eq x y
  have nb : ∀ p q : Nat, Nat.beq p q = decide (p = q) := fun p q => by
    cases hz : Nat.beq p q with
    | true => rw [Nat.eq_of_beq_eq_true hz]; simp
    | false => 
      have : p ≠ q := fun z => by rw [z, Nat.beq_refl] at hz; cases hz
      simp [this]
  have nl : ∀ p q : Nat, Nat.ble p q = decide (p ≤ q) := fun p q => by
    cases hz : Nat.ble p q with
    | true => have := Nat.le_of_ble_eq_true hz; simp [this]
    | false => 
      have : ¬ p ≤ q := fun z => by rw [Nat.ble_eq_true_of_le z] at hz; cases hz
      simp [this]
  have nt : ∀ p q : Nat, Nat.blt p q = decide (p < q) := fun p q => nl (p + 1) q
  cases c with
  | eq => show decide _ = Nat.beq _ _; rw [nb]; exact decide_eq_decide.mpr e5
  | ne =>
    have e6 : decide (rm_key x = rm_key y) = decide (x = y) := decide_eq_decide.mpr e5.symm
    show decide (¬ x = y) = !(Nat.beq (rm_key x) (rm_key y))
    rw [nb, e6]
    exact decide_not
  | lt => show decide _ = Nat.blt _ _; rw [nt]; exact decide_eq_decide.mpr e1
  | ge => show decide _ = Nat.ble _ _; rw [nl]; exact decide_eq_decide.mpr e4
  | gt => show decide _ = Nat.blt _ _; rw [nt]; exact decide_eq_decide.mpr e2
  | le => show decide _ = Nat.ble _ _; rw [nl]; exact decide_eq_decide.mpr e3
theorem rm_cm_sw (c : ClassFile.Cond) (x y : Int32) : am_cm2 c x y = am_cm2 (rm_sw c) y x := by
  cases c with
  | eq => exact decide_eq_decide.mpr eq_comm
  | ne => exact decide_eq_decide.mpr ⟨fun q z => q z.symm, fun q z => q z.symm⟩
  | _ => rfl
theorem rm_w64 (x y : Int32) : (x.toInt64 < y.toInt64 ↔ x < y) ∧ (x.toInt64 = y.toInt64 ↔ x = y) := by
  refine ⟨?_, ?_⟩
  · rw [Int64.lt_iff_toInt_lt, Int32.lt_iff_toInt_lt, Int32.toInt_toInt64, Int32.toInt_toInt64]
  · rw [← Int64.toInt_inj, ← Int32.toInt_inj, Int32.toInt_toInt64, Int32.toInt_toInt64]
theorem rm_ckgt (c : ClassFile.Cond) {p q : Nat} (h : q < p) : rm_ck c 2147483649 2147483648 = rm_ck c p q := by
  have h1 : Nat.beq p q = false := by
    cases hz : Nat.beq p q with
    | true => have := Nat.eq_of_beq_eq_true hz; omega
    | false => rfl
  have h2 : Nat.ble p q = false := by
    cases hz : Nat.ble p q with
    | true => have := Nat.le_of_ble_eq_true hz; omega
    | false => rfl
  have h3 : Nat.ble q p = true := Nat.ble_eq_true_of_le (by omega)
  have h4 : Nat.blt q p = true := Nat.ble_eq_true_of_le h
  have h5 : Nat.blt p q = false := by
    cases hz : Nat.blt p q with
    | true => have := Nat.blt_eq.mp hz; omega
    | false => rfl
  cases c <;> simp only [rm_ck, h1, h2, h3, h4, h5] <;> decide +kernel
theorem rm_cklt (c : ClassFile.Cond) {p q : Nat} (h : p < q) : rm_ck c 2147483647 2147483648 = rm_ck c p q := by
  have h1 : Nat.beq p q = false := by
    cases hz : Nat.beq p q with
    | true => have := Nat.eq_of_beq_eq_true hz; omega
    | false => rfl
  have h2 : Nat.ble q p = false := by
    cases hz : Nat.ble q p with
    | true => have := Nat.le_of_ble_eq_true hz; omega
    | false => rfl
  have h3 : Nat.ble p q = true := Nat.ble_eq_true_of_le (by omega)
  have h4 : Nat.blt p q = true := Nat.ble_eq_true_of_le h
  have h5 : Nat.blt q p = false := by
    cases hz : Nat.blt q p with
    | true => have := Nat.blt_eq.mp hz; omega
    | false => rfl
  cases c <;> simp only [rm_ck, h1, h2, h3, h4, h5] <;> decide +kernel
theorem rm_ckeq (c : ClassFile.Cond) (p q : Nat) : rm_ck c p p = rm_ck c q q := by
  have hb : ∀ p : Nat, Nat.blt p p = false := fun p => by
    cases hz : Nat.blt p p with
    | true => have := Nat.blt_eq.mp hz; omega
    | false => rfl
  have hl : ∀ p : Nat, Nat.ble p p = true := fun p => Nat.ble_eq_true_of_le (Nat.le_refl p)
  cases c <;> simp only [rm_ck, Nat.beq_refl, hb, hl]
theorem rm_lgc (c : ClassFile.Cond) (x y : Int32) : am_cm2 c (lg_cmp x.toInt64 y.toInt64) 0 = am_cm2 c x y := by
  obtain ⟨h1, h2⟩ := rm_w64 x y
  obtain ⟨h3, -⟩ := rm_w64 y x
  have k1 := rm_key_lt x y
  have k2 := rm_key_lt y x
  have k3 := rm_key_eq x y
  unfold lg_cmp
  by_cases q1 : y < x
  · have z1 : x.toInt64 > y.toInt64 := h3.mpr q1
    rw [if_pos z1, rm_ck_ok, rm_ck_ok]
    have := k2.mp q1
    have u1 : rm_key (1 : Int32) = 2147483649 := by decide +kernel
    have u2 : rm_key (0 : Int32) = 2147483648 := by decide +kernel
    rw [u1, u2]
    exact rm_ckgt c this
  · have z1 : ¬ x.toInt64 > y.toInt64 := fun z => q1 (h3.mp z)
    rw [if_neg z1]
    by_cases q2 : x = y
    · have z2 := h2.mpr q2
      rw [if_pos z2, rm_ck_ok, rm_ck_ok]
      have := k3.mp q2
      rw [this]
      exact rm_ckeq c _ _
    · have z2 : ¬ x.toInt64 = y.toInt64 := fun z => q2 (h2.mp z)
      rw [if_neg z2, rm_ck_ok, rm_ck_ok]
      have h5 : rm_key x < rm_key y := by
        rcases Nat.lt_trichotomy (rm_key x) (rm_key y) with h6 | h6 | h6
        · exact h6
        · exact absurd (k3.mpr h6) q2
        · exact absurd (k2.mpr h6) q1
      have u1 : rm_key (-1 : Int32) = 2147483647 := by decide +kernel
      have u2 : rm_key (0 : Int32) = 2147483648 := by decide +kernel
      rw [u1, u2]
      exact rm_cklt c h5
theorem rm_br_ok (c : ClassFile.Cond) {x y : rm_V} {vx vy : Int32} (hb : rm_in xs bx) (hx : rm_ok xs x (.int vx)) (hy : rm_ok xs y (.int vy)) : (am_cm2 c vx vy = true → ∃ z ∈ (rm_br bx x y c).1, rm_in xs z) ∧ (am_cm2 c vx vy = false → ∃ z ∈ (rm_br bx x y c).2, rm_in xs z) := by
  have all : (am_cm2 c vx vy = true → ∃ z ∈ [bx], rm_in xs z) ∧ (am_cm2 c vx vy = false → ∃ z ∈ [bx], rm_in xs z) := ⟨fun _ => ⟨bx, List.mem_singleton.mpr rfl, hb⟩, fun _ => ⟨bx, List.mem_singleton.mpr rfl, hb⟩⟩
  obtain ⟨t, n, m⟩ := x
  obtain ⟨t2, n2, m2⟩ := y
  unfold rm_br
  dsimp only
  cases c1 : (Nat.beq t 0 && Nat.beq t2 0) with
  | true =>
    rw [Bool.and_eq_true] at c1
    obtain rfl : t = 0 := Nat.eq_of_beq_eq_true c1.1
    obtain rfl : t2 = 0 := Nat.eq_of_beq_eq_true c1.2
    have h1 : Value.int vx = .int (nI n) := hx
    have h2 : Value.int vy = .int (nI n2) := hy
    cases h1; cases h2
    rw [rm_ck_ok, rm_key_nI, rm_key_nI]
    dsimp only [cond_true]
    cases rm_ck c (rm_lk n) (rm_lk n2) with
    | true => exact ⟨fun _ => ⟨bx, List.mem_singleton.mpr rfl, hb⟩, fun q => by cases q⟩
    | false => exact ⟨fun q => (by cases q), fun _ => ⟨bx, List.mem_singleton.mpr rfl, hb⟩⟩
  | false =>
    dsimp only [cond_false]
    cases c2 : (Nat.beq t 1 && Nat.beq t2 0) with
    | true =>
      rw [Bool.and_eq_true] at c2
      obtain rfl : t = 1 := Nat.eq_of_beq_eq_true c2.1
      obtain rfl : t2 = 0 := Nat.eq_of_beq_eq_true c2.2
      have h1 : Value.int vx = .int (xs n) := hx
      have h2 : Value.int vy = .int (nI n2) := hy
      cases h1; cases h2
      have := rm_cmp_ok c n (nI n2) hb
      rw [rm_key_nI] at this
      exact this
    | false =>
      dsimp only [cond_false]
      cases c3 : (Nat.beq t 0 && Nat.beq t2 1) with
      | true =>
        rw [Bool.and_eq_true] at c3
        obtain rfl : t = 0 := Nat.eq_of_beq_eq_true c3.1
        obtain rfl : t2 = 1 := Nat.eq_of_beq_eq_true c3.2
        have h1 : Value.int vx = .int (nI n) := hx
        have h2 : Value.int vy = .int (xs n2) := hy
        cases h1; cases h2
        have := rm_cmp_ok (rm_sw c) n2 (nI n) hb
        rw [rm_key_nI, ← rm_cm_sw] at this
        exact this
      | false =>
        dsimp only [cond_false]
        cases c4 : (Nat.beq t 1 && Nat.beq t2 1 && Nat.beq n n2) with
        | true =>
          simp only [Bool.and_eq_true] at c4
          obtain ⟨⟨d1, d2⟩, d3⟩ := c4
          obtain rfl : t = 1 := Nat.eq_of_beq_eq_true d1
          obtain rfl : t2 = 1 := Nat.eq_of_beq_eq_true d2
          obtain rfl : n = n2 := Nat.eq_of_beq_eq_true d3
          have h1 : Value.int vx = .int (xs n) := hx
          have h2 : Value.int vy = .int (xs n) := hy
          cases h1; cases h2
          rw [rm_ck_ok, rm_ckeq c (rm_key (xs n)) 0]
          dsimp only [cond_true]
          cases rm_ck c 0 0 with
          | true => exact ⟨fun _ => ⟨bx, List.mem_singleton.mpr rfl, hb⟩, fun q => by cases q⟩
          | false => exact ⟨fun q => (by cases q), fun _ => ⟨bx, List.mem_singleton.mpr rfl, hb⟩⟩
        | false =>
          dsimp only [cond_false]
          cases c5 : (Nat.beq t 8 && Nat.beq t2 0 && Nat.beq n2 0) with
          | true =>
            simp only [Bool.and_eq_true] at c5
            obtain ⟨⟨d1, d2⟩, d3⟩ := c5
            obtain rfl : t = 8 := Nat.eq_of_beq_eq_true d1
            obtain rfl : t2 = 0 := Nat.eq_of_beq_eq_true d2
            obtain rfl : n2 = 0 := Nat.eq_of_beq_eq_true d3
            have h1 : Value.int vx = .int (lg_cmp (xs n).toInt64 (nI m).toInt64) := hx
            have h2 : Value.int vy = .int (nI 0) := hy
            cases h1; cases h2
            have := rm_cmp_ok c n (nI m) hb
            rw [rm_key_nI, ← rm_lgc] at this
            exact this
          | false => exact all
theorem rs_ifCond {c : ClassFile.Cond} {n : Int} (hb : rm_in xs bx) (hl : rm_lvr xs lv lv') (hs : rm_all xs st st') (hh : rm_hp xs h h') (e : rm_simple L own ini nL (.ifCond c n) a b pc bx lv st h = some outs) : rm_Post L xs own ini nL (.ifCond c n) a b pc outs lv' st' h' := by
  cases st with
  | nil =>
    have e9 : (none : Option (List rm_R5)) = some outs := e
    cases e9
  | cons x st =>
    cases st' with
    | nil => exact absurd hs id
    | cons xv st' =>
      obtain ⟨o_x, hs⟩ := hs
      obtain ⟨hq, e⟩ := am_if_eq e
      obtain ⟨vx, rfl⟩ := rm_ok_I o_x hq
      cases e
      obtain ⟨b1, b2⟩ := rm_br_ok c hb (rm_norm_ok hb o_x) (show rm_ok xs (0, 0, 0) (.int 0) from rfl)
      have hc : am_cm1 c vx = am_cm2 c vx 0 := by cases c <;> rfl
      cases hv : am_cm2 c vx 0 with
      | true =>
        obtain ⟨z, z1, z2⟩ := b1 hv
        exact ⟨_, List.mem_append_left _ (List.mem_map.mpr ⟨z, z1, rfl⟩), z2, (a, lv', st', none), h', by show some (bif am_cm1 c vx then a else pc + 3, lv', st', none) = _; rw [hc, hv]; rfl, rfl, rfl, hl, hs, hh⟩
      | false =>
        obtain ⟨z, z1, z2⟩ := b2 hv
        exact ⟨_, List.mem_append_right _ (List.mem_map.mpr ⟨z, z1, rfl⟩), z2, (pc + 3, lv', st', none), h', by show some (bif am_cm1 c vx then a else pc + 3, lv', st', none) = _; rw [hc, hv]; rfl, rfl, rfl, hl, hs, hh⟩
theorem rs_if_icmp {c : ClassFile.Cond} {n : Int} (hb : rm_in xs bx) (hl : rm_lvr xs lv lv') (hs : rm_all xs st st') (hh : rm_hp xs h h') (e : rm_simple L own ini nL (.if_icmp c n) a b pc bx lv st h = some outs) : rm_Post L xs own ini nL (.if_icmp c n) a b pc outs lv' st' h' := by
  cases st with
  | nil =>
    have e9 : (none : Option (List rm_R5)) = some outs := e
    cases e9
  | cons y st =>
    cases st' with
    | nil => exact absurd hs id
    | cons yv st' =>
      obtain ⟨o_y, hs⟩ := hs
      cases st with
      | nil =>
        have e9 : (none : Option (List rm_R5)) = some outs := e
        cases e9
      | cons x st =>
        cases st' with
        | nil => exact absurd hs id
        | cons xv st' =>
          obtain ⟨o_x, hs⟩ := hs
          obtain ⟨hq, e⟩ := am_if_eq e
          rw [Bool.and_eq_true] at hq
          obtain ⟨vy, rfl⟩ := rm_ok_I o_y hq.1
          obtain ⟨vx, rfl⟩ := rm_ok_I o_x hq.2
          cases e
          obtain ⟨b1, b2⟩ := rm_br_ok c hb (rm_norm_ok hb o_x) (rm_norm_ok hb o_y)
          cases hv : am_cm2 c vx vy with
          | true =>
            obtain ⟨z, z1, z2⟩ := b1 hv
            exact ⟨_, List.mem_append_left _ (List.mem_map.mpr ⟨z, z1, rfl⟩), z2, (a, lv', st', none), h', by show some (bif am_cm2 c vx vy then a else pc + 3, lv', st', none) = _; rw [hv]; rfl, rfl, rfl, hl, hs, hh⟩
          | false =>
            obtain ⟨z, z1, z2⟩ := b2 hv
            exact ⟨_, List.mem_append_right _ (List.mem_map.mpr ⟨z, z1, rfl⟩), z2, (pc + 3, lv', st', none), h', by show some (bif am_cm2 c vx vy then a else pc + 3, lv', st', none) = _; rw [hv]; rfl, rfl, rfl, hl, hs, hh⟩
end RS

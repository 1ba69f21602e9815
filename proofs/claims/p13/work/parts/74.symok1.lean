noncomputable def rm_Post (L : Nat) (xs : Nat → Int32) (own : Nat) (ini : Bool) (nL : Nat) (i : Instr) (a b pc : Nat) (outs : List rm_R5) (lv : am_L) (st : List Value) (h : List am_E) : Prop :=
  ∃ o ∈ outs, rm_in xs o.1 ∧ ∃ (z : am_R4) (h2 : List am_E), am_simple L xs own ini nL i a b pc lv st h = some z ∧ am_app h z.2.2.2 = some h2 ∧ o.2.1 = z.1 ∧ rm_lvr xs o.2.2.1 z.2.1 ∧ rm_all xs o.2.2.2.1 z.2.2.1 ∧ rm_hp xs o.2.2.2.2 h2
theorem rm_lit (xs : Nat → Int32) (x : Int32) : rm_ok xs (0, rm_tn x, 0) (.int x) := by
  show Value.int x = .int (nI (rm_tn x))
  rw [rm_nI_tn]
theorem rm_lN64 (x : Int64) : lN x.toBitVec.toNat = x := by
  apply Int64.toBitVec_inj.mp
  show BitVec.ofNat 64 x.toBitVec.toNat = x.toBitVec
  apply BitVec.eq_of_toNat_eq
  rw [BitVec.toNat_ofNat]
  exact Nat.mod_eq_of_lt x.toBitVec.isLt
theorem rm_cons {xs : Nat → Int32} {a : rm_V} {v : Value} {s : List rm_V} {t : List Value} (h : rm_ok xs a v) (k : rm_all xs s t) : rm_all xs (a :: s) (v :: t) := ⟨h, k⟩
section RS
variable {L own nL a b pc : Nat} {ini : Bool} {xs : Nat → Int32} {bx : rm_B} {lv : rm_L} {st : List rm_V} {h : List rm_E} {lv' : am_L} {st' : List Value} {h' : List am_E} {outs : List rm_R5}
theorem rm_post1 {i : Instr} {pc1 : Nat} {lv1 : rm_L} {st1 : List rm_V} {lv2 : am_L} {st2 : List Value} (hb : rm_in xs bx) (hh : rm_hp xs h h') (e : rm_one bx pc1 lv1 st1 h = some outs) (hs1 : am_simple L xs own ini nL i a b pc lv' st' h' = some (pc1, lv2, st2, none)) (hl1 : rm_lvr xs lv1 lv2) (hst1 : rm_all xs st1 st2) : rm_Post L xs own ini nL i a b pc outs lv' st' h' := by
  cases e
  exact ⟨_, List.mem_singleton.mpr rfl, hb, _, h', hs1, rfl, rfl, hl1, hst1, hh⟩
theorem rs_iconst {n : Int} (hb : rm_in xs bx) (hl : rm_lvr xs lv lv') (hs : rm_all xs st st') (hh : rm_hp xs h h') (e : rm_simple L own ini nL (.iconst n) a b pc bx lv st h = some outs) : rm_Post L xs own ini nL (.iconst n) a b pc outs lv' st' h' := by
  exact rm_post1 hb hh e rfl hl ⟨rm_lit xs _, hs⟩
theorem rs_bipush {n : Int} (hb : rm_in xs bx) (hl : rm_lvr xs lv lv') (hs : rm_all xs st st') (hh : rm_hp xs h h') (e : rm_simple L own ini nL (.bipush n) a b pc bx lv st h = some outs) : rm_Post L xs own ini nL (.bipush n) a b pc outs lv' st' h' := by
  exact rm_post1 hb hh e rfl hl ⟨rm_lit xs _, hs⟩
theorem rs_sipush {n : Int} (hb : rm_in xs bx) (hl : rm_lvr xs lv lv') (hs : rm_all xs st st') (hh : rm_hp xs h h') (e : rm_simple L own ini nL (.sipush n) a b pc bx lv st h = some outs) : rm_Post L xs own ini nL (.sipush n) a b pc outs lv' st' h' := by
  exact rm_post1 hb hh e rfl hl ⟨rm_lit xs _, hs⟩
theorem rs_lconst {n : Fin 2} (hb : rm_in xs bx) (hl : rm_lvr xs lv lv') (hs : rm_all xs st st') (hh : rm_hp xs h h') (e : rm_simple L own ini nL (.lconst n) a b pc bx lv st h = some outs) : rm_Post L xs own ini nL (.lconst n) a b pc outs lv' st' h' := by
  exact rm_post1 hb hh e rfl hl ⟨rfl, hs⟩
theorem rs_ldc_w {n : Nat} (hb : rm_in xs bx) (hl : rm_lvr xs lv lv') (hs : rm_all xs st st') (hh : rm_hp xs h h') (e : rm_simple L own ini nL (.ldc_w n) a b pc bx lv st h = some outs) : rm_Post L xs own ini nL (.ldc_w n) a b pc outs lv' st' h' := by
  obtain ⟨q, e1, e⟩ := am_bd e
  exact rm_post1 hb hh e (by show am_CI[a]?.bind _ = _; rw [e1]; rfl) hl (rm_cons (rm_lit xs _) hs)
theorem rs_ldc2_w {n : Nat} (hb : rm_in xs bx) (hl : rm_lvr xs lv lv') (hs : rm_all xs st st') (hh : rm_hp xs h h') (e : rm_simple L own ini nL (.ldc2_w n) a b pc bx lv st h = some outs) : rm_Post L xs own ini nL (.ldc2_w n) a b pc outs lv' st' h' := by
  obtain ⟨q, e1, e⟩ := am_bd e
  have o1 : rm_ok xs (3, q.2.2.1.toBitVec.toNat, 0) (.long q.2.2.1) := by
    show Value.long q.2.2.1 = .long (lN q.2.2.1.toBitVec.toNat)
    rw [rm_lN64]
  exact rm_post1 hb hh e (by show am_CL[a]?.bind _ = _; rw [e1]; rfl) hl (rm_cons o1 hs)
theorem rs_iload_n {n : Fin 4} (hb : rm_in xs bx) (hl : rm_lvr xs lv lv') (hs : rm_all xs st st') (hh : rm_hp xs h h') (e : rm_simple L own ini nL (.iload_n n) a b pc bx lv st h = some outs) : rm_Post L xs own ini nL (.iload_n n) a b pc outs lv' st' h' := by
  obtain ⟨x, e1, e⟩ := am_bd e
  obtain ⟨hx, e⟩ := am_if_eq e
  obtain ⟨v, e2, o1⟩ := rm_lvr_get hl e1
  obtain ⟨v0, rfl⟩ := rm_ok_I o1 hx
  exact rm_post1 hb hh e (by show (am_gi lv' n.val).bind _ = _; unfold am_gi; rw [e2]; rfl) hl (rm_cons (rm_norm_ok hb o1) hs)
theorem rs_iload {n : Nat} (hb : rm_in xs bx) (hl : rm_lvr xs lv lv') (hs : rm_all xs st st') (hh : rm_hp xs h h') (e : rm_simple L own ini nL (.iload n) a b pc bx lv st h = some outs) : rm_Post L xs own ini nL (.iload n) a b pc outs lv' st' h' := by
  obtain ⟨x, e1, e⟩ := am_bd e
  obtain ⟨hx, e⟩ := am_if_eq e
  obtain ⟨v, e2, o1⟩ := rm_lvr_get hl e1
  obtain ⟨v0, rfl⟩ := rm_ok_I o1 hx
  exact rm_post1 hb hh e (by show (am_gi lv' n).bind _ = _; unfold am_gi; rw [e2]; rfl) hl (rm_cons (rm_norm_ok hb o1) hs)
theorem rs_lload_n {n : Fin 4} (hb : rm_in xs bx) (hl : rm_lvr xs lv lv') (hs : rm_all xs st st') (hh : rm_hp xs h h') (e : rm_simple L own ini nL (.lload_n n) a b pc bx lv st h = some outs) : rm_Post L xs own ini nL (.lload_n n) a b pc outs lv' st' h' := by
  obtain ⟨x, e1, e⟩ := am_bd e
  obtain ⟨hx, e⟩ := am_if_eq e
  obtain ⟨v, e2, o1⟩ := rm_lvr_get hl e1
  obtain ⟨v0, rfl⟩ := rm_ok_J o1 hx
  exact rm_post1 hb hh e (by show (am_gl lv' n.val).bind _ = _; unfold am_gl; rw [e2]; rfl) hl (rm_cons (o1) hs)
theorem rs_lload {n : Nat} (hb : rm_in xs bx) (hl : rm_lvr xs lv lv') (hs : rm_all xs st st') (hh : rm_hp xs h h') (e : rm_simple L own ini nL (.lload n) a b pc bx lv st h = some outs) : rm_Post L xs own ini nL (.lload n) a b pc outs lv' st' h' := by
  obtain ⟨x, e1, e⟩ := am_bd e
  obtain ⟨hx, e⟩ := am_if_eq e
  obtain ⟨v, e2, o1⟩ := rm_lvr_get hl e1
  obtain ⟨v0, rfl⟩ := rm_ok_J o1 hx
  exact rm_post1 hb hh e (by show (am_gl lv' n).bind _ = _; unfold am_gl; rw [e2]; rfl) hl (rm_cons (o1) hs)
theorem rs_aload_n {n : Fin 4} (hb : rm_in xs bx) (hl : rm_lvr xs lv lv') (hs : rm_all xs st st') (hh : rm_hp xs h h') (e : rm_simple L own ini nL (.aload_n n) a b pc bx lv st h = some outs) : rm_Post L xs own ini nL (.aload_n n) a b pc outs lv' st' h' := by
  obtain ⟨x, e1, e⟩ := am_bd e
  obtain ⟨hx, e⟩ := am_if_eq e
  obtain ⟨v, e2, o1⟩ := rm_lvr_get hl e1
  obtain rfl := rm_ok_R o1 hx
  exact rm_post1 hb hh e (by show (am_gr lv' n.val).bind _ = _; unfold am_gr; rw [e2]; rfl) hl (rm_cons (o1) hs)
theorem rs_istore_n {n : Fin 4} (hb : rm_in xs bx) (hl : rm_lvr xs lv lv') (hs : rm_all xs st st') (hh : rm_hp xs h h') (e : rm_simple L own ini nL (.istore_n n) a b pc bx lv st h = some outs) : rm_Post L xs own ini nL (.istore_n n) a b pc outs lv' st' h' := by
  cases st with
  | nil =>
    have e9 : (none : Option (List rm_R5)) = some outs := e
    cases e9
  | cons x st =>
    cases st' with
    | nil => exact absurd hs id
    | cons xv st' =>
      obtain ⟨o_x, hs⟩ := hs
      obtain ⟨hx, e⟩ := am_if_eq e
      rw [Bool.and_eq_true] at hx
      obtain ⟨hx, hn⟩ := hx
      obtain ⟨v0, rfl⟩ := rm_ok_I o_x hx
      exact rm_post1 hb hh e (by show am_if (Nat.blt n.val nL) _ = _; rw [hn]; rfl) (rm_lvr_put1 hl o_x) hs
theorem rs_istore {n : Nat} (hb : rm_in xs bx) (hl : rm_lvr xs lv lv') (hs : rm_all xs st st') (hh : rm_hp xs h h') (e : rm_simple L own ini nL (.istore n) a b pc bx lv st h = some outs) : rm_Post L xs own ini nL (.istore n) a b pc outs lv' st' h' := by
  cases st with
  | nil =>
    have e9 : (none : Option (List rm_R5)) = some outs := e
    cases e9
  | cons x st =>
    cases st' with
    | nil => exact absurd hs id
    | cons xv st' =>
      obtain ⟨o_x, hs⟩ := hs
      obtain ⟨hx, e⟩ := am_if_eq e
      rw [Bool.and_eq_true] at hx
      obtain ⟨hx, hn⟩ := hx
      obtain ⟨v0, rfl⟩ := rm_ok_I o_x hx
      exact rm_post1 hb hh e (by show am_if (Nat.blt n nL) _ = _; rw [hn]; rfl) (rm_lvr_put1 hl o_x) hs
theorem rs_lstore_n {n : Fin 4} (hb : rm_in xs bx) (hl : rm_lvr xs lv lv') (hs : rm_all xs st st') (hh : rm_hp xs h h') (e : rm_simple L own ini nL (.lstore_n n) a b pc bx lv st h = some outs) : rm_Post L xs own ini nL (.lstore_n n) a b pc outs lv' st' h' := by
  cases st with
  | nil =>
    have e9 : (none : Option (List rm_R5)) = some outs := e
    cases e9
  | cons x st =>
    cases st' with
    | nil => exact absurd hs id
    | cons xv st' =>
      obtain ⟨o_x, hs⟩ := hs
      obtain ⟨hx, e⟩ := am_if_eq e
      rw [Bool.and_eq_true] at hx
      obtain ⟨hx, hn⟩ := hx
      obtain ⟨v0, rfl⟩ := rm_ok_J o_x hx
      exact rm_post1 hb hh e (by show am_if (Nat.blt (n.val + 1) nL) _ = _; rw [hn]; rfl) (rm_lvr_put2 hl o_x) hs
theorem rs_astore_n {n : Fin 4} (hb : rm_in xs bx) (hl : rm_lvr xs lv lv') (hs : rm_all xs st st') (hh : rm_hp xs h h') (e : rm_simple L own ini nL (.astore_n n) a b pc bx lv st h = some outs) : rm_Post L xs own ini nL (.astore_n n) a b pc outs lv' st' h' := by
  cases st with
  | nil =>
    have e9 : (none : Option (List rm_R5)) = some outs := e
    cases e9
  | cons x st =>
    cases st' with
    | nil => exact absurd hs id
    | cons xv st' =>
      obtain ⟨o_x, hs⟩ := hs
      obtain ⟨hx, e⟩ := am_if_eq e
      rw [Bool.and_eq_true] at hx
      obtain ⟨hx, hn⟩ := hx
      obtain rfl := rm_ok_R o_x hx
      exact rm_post1 hb hh e (by show am_if (Nat.blt n.val nL) _ = _; rw [hn]; rfl) (rm_lvr_put1 hl o_x) hs
theorem rs_iinc {n : Nat} {j : Int} (hb : rm_in xs bx) (hl : rm_lvr xs lv lv') (hs : rm_all xs st st') (hh : rm_hp xs h h') (e : rm_simple L own ini nL (.iinc n j) a b pc bx lv st h = some outs) : rm_Post L xs own ini nL (.iinc n j) a b pc outs lv' st' h' := by
  obtain ⟨x, e1, e⟩ := am_bd e
  obtain ⟨hx, e⟩ := am_if_eq e
  rw [Bool.and_eq_true] at hx
  obtain ⟨hx, hn⟩ := hx
  obtain ⟨v, e2, o1⟩ := rm_lvr_get hl e1
  obtain ⟨t, n1, n2⟩ := x
  obtain rfl : t = 0 := Nat.eq_of_beq_eq_true hx
  have o2 : v = .int (nI n1) := o1
  subst o2
  exact rm_post1 hb hh e (by show am_if (Nat.blt n nL) ((am_gi lv' n).bind _) = _; rw [hn]; unfold am_gi; rw [e2]; rfl) (rm_lvr_put1 hl (rm_lit xs _)) hs
theorem rm_p1_ok {x : rm_V} {v : Value} {r : List Value} (o : rm_ok xs x v) (hx : (!(rm_isJ x)) = true) : am_p1 (v :: r) = some (v, r) := by
  have h1 := rm_ok_cat o
  unfold rm_ct at h1
  have h2 : rm_isJ x = false := by simpa using hx
  rw [h2] at h1
  show (bif Nat.beq v.category 1 then some (v, r) else none) = _
  rw [h1]; rfl
theorem rs_dup (hb : rm_in xs bx) (hl : rm_lvr xs lv lv') (hs : rm_all xs st st') (hh : rm_hp xs h h') (e : rm_simple L own ini nL (.dup) a b pc bx lv st h = some outs) : rm_Post L xs own ini nL (.dup) a b pc outs lv' st' h' := by
  cases st with
  | nil =>
    have e9 : (none : Option (List rm_R5)) = some outs := e
    cases e9
  | cons x st =>
    cases st' with
    | nil => exact absurd hs id
    | cons xv st' =>
      obtain ⟨o_x, hs⟩ := hs
      obtain ⟨hx, e⟩ := am_if_eq e
      exact rm_post1 hb hh e (by show (am_p1 (xv :: st')).bind _ = _; rw [rm_p1_ok o_x hx]; rfl) hl (rm_cons o_x (rm_cons o_x hs))
theorem rs_dup2 (hb : rm_in xs bx) (hl : rm_lvr xs lv lv') (hs : rm_all xs st st') (hh : rm_hp xs h h') (e : rm_simple L own ini nL (.dup2) a b pc bx lv st h = some outs) : rm_Post L xs own ini nL (.dup2) a b pc outs lv' st' h' := by
  cases st with
  | nil =>
    have e9 : (none : Option (List rm_R5)) = some outs := e
    cases e9
  | cons x st =>
    cases st' with
    | nil => exact absurd hs id
    | cons xv st' =>
      obtain ⟨o_x, hs⟩ := hs
      cases st with
      | nil =>
        have e9 : (none : Option (List rm_R5)) = some outs := e
        cases e9
      | cons y st =>
        cases st' with
        | nil => exact absurd hs id
        | cons yv st' =>
          obtain ⟨o_y, hs⟩ := hs
          obtain ⟨hx, e⟩ := am_if_eq e
          rw [Bool.and_eq_true] at hx
          exact rm_post1 hb hh e (by show (am_p1 (xv :: yv :: st')).bind _ = _; rw [rm_p1_ok o_x hx.1]; show (am_p1 (yv :: st')).bind _ = _; rw [rm_p1_ok o_y hx.2]; rfl) hl (rm_cons o_x (rm_cons o_y (rm_cons o_x (rm_cons o_y hs))))
theorem rm_b2_ok (f : Int32 → Int32 → Int32) {y x : rm_V} {vy vx : Int32} (hy : rm_ok xs y (.int vy)) (hx : rm_ok xs x (.int vx)) : rm_ok xs (rm_b2 f y x) (.int (f vx vy)) := by
  unfold rm_b2
  cases hc : (Nat.beq x.1 0 && Nat.beq y.1 0) with
  | false => exact ⟨_, rfl⟩
  | true =>
    rw [Bool.and_eq_true] at hc
    obtain ⟨t, n, m⟩ := x
    obtain ⟨t2, n2, m2⟩ := y
    obtain rfl : t = 0 := Nat.eq_of_beq_eq_true hc.1
    obtain rfl : t2 = 0 := Nat.eq_of_beq_eq_true hc.2
    have h1 : Value.int vx = .int (nI n) := hx
    have h2 : Value.int vy = .int (nI n2) := hy
    cases h1; cases h2
    exact rm_lit xs _
theorem rm_0_ok {y : rm_V} {v : Int32} (hy : rm_ok xs y (.int v)) (h : rm_0 y = true) : v = 0 := by
  obtain ⟨t, n, m⟩ := y
  unfold rm_0 at h
  rw [Bool.and_eq_true] at h
  obtain rfl : t = 0 := Nat.eq_of_beq_eq_true h.1
  obtain rfl : n = 0 := Nat.eq_of_beq_eq_true h.2
  have h2 : Value.int v = .int (nI 0) := hy
  cases h2
  rfl
theorem rm_add_ok {y x : rm_V} {vy vx : Int32} (hy : rm_ok xs y (.int vy)) (hx : rm_ok xs x (.int vx)) : rm_ok xs (rm_add y x) (.int (vx + vy)) := by
  unfold rm_add
  cases h1 : rm_0 y with
  | true =>
    rw [rm_0_ok hy h1, Int32.add_zero]; exact hx
  | false =>
    cases h2 : rm_0 x with
    | true => rw [rm_0_ok hx h2, Int32.zero_add]; exact hy
    | false => exact rm_b2_ok (fun x y => x + y) hy hx
theorem rm_sub_ok {y x : rm_V} {vy vx : Int32} (hy : rm_ok xs y (.int vy)) (hx : rm_ok xs x (.int vx)) : rm_ok xs (rm_sub y x) (.int (vx - vy)) := by
  unfold rm_sub
  cases h1 : rm_0 y with
  | true =>
    rw [rm_0_ok hy h1, Int32.sub_zero]; exact hx
  | false => exact rm_b2_ok (fun x y => x - y) hy hx
theorem rm_bin_ok {i : Instr} {f : rm_V → rm_V → rm_V} {g : Int32 → Int32 → Int32} (hb : rm_in xs bx) (hl : rm_lvr xs lv lv') (hs : rm_all xs st st') (hh : rm_hp xs h h') (hfg : ∀ {y x : rm_V} {vy vx : Int32}, rm_ok xs y (.int vy) → rm_ok xs x (.int vx) → rm_ok xs (f y x) (.int (g vx vy)))
    (hsi : am_simple L xs own ini nL i a b pc lv' st' h' = am_nx (pc + 1) lv' (am_b2 st' g)) (e : rm_bin bx pc lv st h f = some outs) : rm_Post L xs own ini nL i a b pc outs lv' st' h' := by
  cases st with
  | nil =>
    have e9 : (none : Option (List rm_R5)) = some outs := e
    cases e9
  | cons y st =>
    cases st' with
    | nil => exact absurd hs id
    | cons yv st' =>
      obtain ⟨o_y, hs⟩ := hs
      cases st with
      | nil =>
        have e9 : (none : Option (List rm_R5)) = some outs := e
        cases e9
      | cons x st =>
        cases st' with
        | nil => exact absurd hs id
        | cons xv st' =>
          obtain ⟨o_x, hs⟩ := hs
          obtain ⟨hq, e⟩ := am_if_eq e
          rw [Bool.and_eq_true] at hq
          obtain ⟨vy, rfl⟩ := rm_ok_I o_y hq.1
          obtain ⟨vx, rfl⟩ := rm_ok_I o_x hq.2
          exact rm_post1 hb hh e (by rw [hsi]; rfl) hl (rm_cons (hfg o_y o_x) hs)
theorem rs_iadd (hb : rm_in xs bx) (hl : rm_lvr xs lv lv') (hs : rm_all xs st st') (hh : rm_hp xs h h') (e : rm_simple L own ini nL (.iadd) a b pc bx lv st h = some outs) : rm_Post L xs own ini nL (.iadd) a b pc outs lv' st' h' := by
  exact rm_bin_ok (g := fun x y => x + y) hb hl hs hh (fun h1 h2 => rm_add_ok h1 h2) rfl e
theorem rs_isub (hb : rm_in xs bx) (hl : rm_lvr xs lv lv') (hs : rm_all xs st st') (hh : rm_hp xs h h') (e : rm_simple L own ini nL (.isub) a b pc bx lv st h = some outs) : rm_Post L xs own ini nL (.isub) a b pc outs lv' st' h' := by
  exact rm_bin_ok (g := fun x y => x - y) hb hl hs hh (fun h1 h2 => rm_sub_ok h1 h2) rfl e
theorem rs_imul (hb : rm_in xs bx) (hl : rm_lvr xs lv lv') (hs : rm_all xs st st') (hh : rm_hp xs h h') (e : rm_simple L own ini nL (.imul) a b pc bx lv st h = some outs) : rm_Post L xs own ini nL (.imul) a b pc outs lv' st' h' := by
  exact rm_bin_ok (g := fun x y => x * y) hb hl hs hh (fun h1 h2 => rm_b2_ok (fun x y => x * y) h1 h2) rfl e
theorem rs_iand (hb : rm_in xs bx) (hl : rm_lvr xs lv lv') (hs : rm_all xs st st') (hh : rm_hp xs h h') (e : rm_simple L own ini nL (.iand) a b pc bx lv st h = some outs) : rm_Post L xs own ini nL (.iand) a b pc outs lv' st' h' := by
  exact rm_bin_ok (g := fun x y => x &&& y) hb hl hs hh (fun h1 h2 => rm_b2_ok (fun x y => x &&& y) h1 h2) rfl e
theorem rs_ishr (hb : rm_in xs bx) (hl : rm_lvr xs lv lv') (hs : rm_all xs st st') (hh : rm_hp xs h h') (e : rm_simple L own ini nL (.ishr) a b pc bx lv st h = some outs) : rm_Post L xs own ini nL (.ishr) a b pc outs lv' st' h' := by
  exact rm_bin_ok (g := fun x y => x >>> (y &&& 31)) hb hl hs hh (fun h1 h2 => rm_b2_ok (fun x y => x >>> (y &&& 31)) h1 h2) rfl e
theorem rs_iushr (hb : rm_in xs bx) (hl : rm_lvr xs lv lv') (hs : rm_all xs st st') (hh : rm_hp xs h h') (e : rm_simple L own ini nL (.iushr) a b pc bx lv st h = some outs) : rm_Post L xs own ini nL (.iushr) a b pc outs lv' st' h' := by
  exact rm_bin_ok (g := fun x y => (x.toUInt32 >>> (y.toUInt32 &&& Int32.toUInt32 31)).toInt32) hb hl hs hh (fun h1 h2 => rm_b2_ok (fun x y => (x.toUInt32 >>> (y.toUInt32 &&& Int32.toUInt32 31)).toInt32) h1 h2) rfl e
theorem rs_land (hb : rm_in xs bx) (hl : rm_lvr xs lv lv') (hs : rm_all xs st st') (hh : rm_hp xs h h') (e : rm_simple L own ini nL (.land) a b pc bx lv st h = some outs) : rm_Post L xs own ini nL (.land) a b pc outs lv' st' h' := by
  cases st with
  | nil =>
    have e9 : (none : Option (List rm_R5)) = some outs := e
    cases e9
  | cons y st =>
    cases st' with
    | nil => exact absurd hs id
    | cons yv st' =>
      obtain ⟨o_y, hs⟩ := hs
      cases st with
      | nil =>
        have e9 : (none : Option (List rm_R5)) = some outs := e
        cases e9
      | cons x st =>
        cases st' with
        | nil => exact absurd hs id
        | cons xv st' =>
          obtain ⟨o_x, hs⟩ := hs
          obtain ⟨hq, e⟩ := am_if_eq e
          rw [Bool.and_eq_true] at hq
          obtain ⟨vy, rfl⟩ := rm_ok_J o_y hq.1
          obtain ⟨vx, rfl⟩ := rm_ok_J o_x hq.2
          exact rm_post1 hb hh e rfl hl ⟨⟨_, rfl⟩, hs⟩
theorem rs_lor (hb : rm_in xs bx) (hl : rm_lvr xs lv lv') (hs : rm_all xs st st') (hh : rm_hp xs h h') (e : rm_simple L own ini nL (.lor) a b pc bx lv st h = some outs) : rm_Post L xs own ini nL (.lor) a b pc outs lv' st' h' := by
  cases st with
  | nil =>
    have e9 : (none : Option (List rm_R5)) = some outs := e
    cases e9
  | cons y st =>
    cases st' with
    | nil => exact absurd hs id
    | cons yv st' =>
      obtain ⟨o_y, hs⟩ := hs
      cases st with
      | nil =>
        have e9 : (none : Option (List rm_R5)) = some outs := e
        cases e9
      | cons x st =>
        cases st' with
        | nil => exact absurd hs id
        | cons xv st' =>
          obtain ⟨o_x, hs⟩ := hs
          obtain ⟨hq, e⟩ := am_if_eq e
          rw [Bool.and_eq_true] at hq
          obtain ⟨vy, rfl⟩ := rm_ok_J o_y hq.1
          obtain ⟨vx, rfl⟩ := rm_ok_J o_x hq.2
          exact rm_post1 hb hh e rfl hl ⟨⟨_, rfl⟩, hs⟩
theorem rs_lshl (hb : rm_in xs bx) (hl : rm_lvr xs lv lv') (hs : rm_all xs st st') (hh : rm_hp xs h h') (e : rm_simple L own ini nL (.lshl) a b pc bx lv st h = some outs) : rm_Post L xs own ini nL (.lshl) a b pc outs lv' st' h' := by
  cases st with
  | nil =>
    have e9 : (none : Option (List rm_R5)) = some outs := e
    cases e9
  | cons y st =>
    cases st' with
    | nil => exact absurd hs id
    | cons yv st' =>
      obtain ⟨o_y, hs⟩ := hs
      cases st with
      | nil =>
        have e9 : (none : Option (List rm_R5)) = some outs := e
        cases e9
      | cons x st =>
        cases st' with
        | nil => exact absurd hs id
        | cons xv st' =>
          obtain ⟨o_x, hs⟩ := hs
          obtain ⟨hq, e⟩ := am_if_eq e
          rw [Bool.and_eq_true] at hq
          obtain ⟨vy, rfl⟩ := rm_ok_I o_y hq.1
          obtain ⟨vx, rfl⟩ := rm_ok_J o_x hq.2
          exact rm_post1 hb hh e rfl hl ⟨⟨_, rfl⟩, hs⟩
theorem rm_jv_ok {x : rm_V} {v p : Int64} (hx : rm_ok xs x (.long v)) (h : rm_jv x = some p) : v = p := by
  obtain ⟨t, n, m⟩ := x
  unfold rm_jv at h
  match t, hx, h with
  | 3, hx, h => have h2 : Value.long v = .long (lN n) := hx; cases h2; cases h; rfl
  | 9, hx, h => have h2 : Value.long v = .long (nI n).toInt64 := hx; cases h2; cases h; rfl
  | 0, _, h => cases h
  | 1, _, h => cases h
  | 2, _, h => cases h
  | 4, _, h => cases h
  | 5, _, h => cases h
  | 6, _, h => cases h
  | 7, _, h => cases h
  | 8, _, h => cases h
  | t + 10, _, h => cases h
theorem rm_lc_ok {y x : rm_V} {vy vx : Int64} (hy : rm_ok xs y (.long vy)) (hx : rm_ok xs x (.long vx)) : rm_ok xs (rm_lc y x) (.int (lg_cmp vx vy)) := by
  unfold rm_lc
  split
  · rename_i p q h1 h2
    rw [rm_jv_ok hx h1, rm_jv_ok hy h2]
    exact rm_lit xs _
  · cases hc : (Nat.beq x.1 7 && Nat.beq y.1 9) with
    | true =>
      rw [Bool.and_eq_true] at hc
      obtain ⟨t, n, m⟩ := x
      obtain ⟨t2, n2, m2⟩ := y
      obtain rfl : t = 7 := Nat.eq_of_beq_eq_true hc.1
      obtain rfl : t2 = 9 := Nat.eq_of_beq_eq_true hc.2
      have h1 : Value.long vx = .long (xs n).toInt64 := hx
      have h2 : Value.long vy = .long (nI n2).toInt64 := hy
      cases h1; cases h2
      rfl
    | false =>
      dsimp only [cond_false]
      cases hd : (Nat.beq x.1 7 && Nat.beq y.1 3 && Nat.blt y.2.1 2147483648) with
      | false => exact ⟨_, rfl⟩
      | true =>
        simp only [Bool.and_eq_true] at hd
        obtain ⟨⟨d1, d2⟩, d3⟩ := hd
        obtain ⟨t, n, m⟩ := x
        obtain ⟨t2, n2, m2⟩ := y
        obtain rfl : t = 7 := Nat.eq_of_beq_eq_true d1
        obtain rfl : t2 = 3 := Nat.eq_of_beq_eq_true d2
        have d4 : n2 < 2 ^ 31 := Nat.blt_eq.mp d3
        have h1 : Value.long vx = .long (xs n).toInt64 := hx
        have h2 : Value.long vy = .long (lN n2) := hy
        rw [← nI_l d4] at h2
        cases h1; cases h2
        rfl
theorem rs_lcmp (hb : rm_in xs bx) (hl : rm_lvr xs lv lv') (hs : rm_all xs st st') (hh : rm_hp xs h h') (e : rm_simple L own ini nL (.lcmp) a b pc bx lv st h = some outs) : rm_Post L xs own ini nL (.lcmp) a b pc outs lv' st' h' := by
  cases st with
  | nil =>
    have e9 : (none : Option (List rm_R5)) = some outs := e
    cases e9
  | cons y st =>
    cases st' with
    | nil => exact absurd hs id
    | cons yv st' =>
      obtain ⟨o_y, hs⟩ := hs
      cases st with
      | nil =>
        have e9 : (none : Option (List rm_R5)) = some outs := e
        cases e9
      | cons x st =>
        cases st' with
        | nil => exact absurd hs id
        | cons xv st' =>
          obtain ⟨o_x, hs⟩ := hs
          obtain ⟨hq, e⟩ := am_if_eq e
          rw [Bool.and_eq_true] at hq
          obtain ⟨vy, rfl⟩ := rm_ok_J o_y hq.1
          obtain ⟨vx, rfl⟩ := rm_ok_J o_x hq.2
          exact rm_post1 hb hh e rfl hl ⟨rm_lc_ok o_y o_x, hs⟩
theorem rs_i2l (hb : rm_in xs bx) (hl : rm_lvr xs lv lv') (hs : rm_all xs st st') (hh : rm_hp xs h h') (e : rm_simple L own ini nL (.i2l) a b pc bx lv st h = some outs) : rm_Post L xs own ini nL (.i2l) a b pc outs lv' st' h' := by
  cases st with
  | nil =>
    have e9 : (none : Option (List rm_R5)) = some outs := e
    cases e9
  | cons x st =>
    cases st' with
    | nil => exact absurd hs id
    | cons xv st' =>
      obtain ⟨o_x, hs⟩ := hs
      obtain ⟨hq, e⟩ := am_if_eq e
      obtain ⟨vx, rfl⟩ := rm_ok_I o_x hq
      refine rm_post1 hb hh e rfl hl ⟨?_, hs⟩
      cases h0 : Nat.beq x.1 0 with
      | true =>
        obtain ⟨t, n, m⟩ := x
        obtain rfl : t = 0 := Nat.eq_of_beq_eq_true h0
        have h1 : Value.int vx = .int (nI n) := o_x
        cases h1
        rfl
      | false =>
        cases h1 : Nat.beq x.1 1 with
        | true =>
          obtain ⟨t, n, m⟩ := x
          obtain rfl : t = 1 := Nat.eq_of_beq_eq_true h1
          have h2 : Value.int vx = .int (xs n) := o_x
          cases h2
          rfl
        | false => exact ⟨_, rfl⟩
theorem rs_i2b (hb : rm_in xs bx) (hl : rm_lvr xs lv lv') (hs : rm_all xs st st') (hh : rm_hp xs h h') (e : rm_simple L own ini nL (.i2b) a b pc bx lv st h = some outs) : rm_Post L xs own ini nL (.i2b) a b pc outs lv' st' h' := by
  cases st with
  | nil =>
    have e9 : (none : Option (List rm_R5)) = some outs := e
    cases e9
  | cons x st =>
    cases st' with
    | nil => exact absurd hs id
    | cons xv st' =>
      obtain ⟨o_x, hs⟩ := hs
      obtain ⟨hq, e⟩ := am_if_eq e
      obtain ⟨vx, rfl⟩ := rm_ok_I o_x hq
      exact rm_post1 hb hh e rfl hl ⟨⟨_, rfl⟩, hs⟩
theorem rs_goto {n : Int} (hb : rm_in xs bx) (hl : rm_lvr xs lv lv') (hs : rm_all xs st st') (hh : rm_hp xs h h') (e : rm_simple L own ini nL (.goto n) a b pc bx lv st h = some outs) : rm_Post L xs own ini nL (.goto n) a b pc outs lv' st' h' := by
  exact rm_post1 hb hh e rfl hl hs
theorem rs_getfield {n : Nat} (hb : rm_in xs bx) (hl : rm_lvr xs lv lv') (hs : rm_all xs st st') (hh : rm_hp xs h h') (e : rm_simple L own ini nL (.getfield n) a b pc bx lv st h = some outs) : rm_Post L xs own ini nL (.getfield n) a b pc outs lv' st' h' := by
  cases st with
  | nil =>
    have e9 : (none : Option (List rm_R5)) = some outs := e
    cases e9
  | cons x st =>
    cases st' with
    | nil => exact absurd hs id
    | cons xv st' =>
      obtain ⟨o_x, hs⟩ := hs
      obtain ⟨hq, e⟩ := am_if_eq e
      obtain rfl := rm_ok_R o_x hq
      obtain ⟨fs, e1, e⟩ := am_bd e
      obtain ⟨v, e2, e⟩ := am_bd e
      obtain ⟨j, gs, g1, g2, g3, g4⟩ := rm_ob_ok hh e1
      obtain ⟨w, w1, w2⟩ := rm_all_get g4 e2
      exact rm_post1 hb hh e (by show (am_ob h' x.2.1 a).bind _ = _; rw [g3]; show gs[b]?.bind _ = _; rw [w1]; rfl) hl (rm_cons w2 hs)
theorem rs_arraylength (hb : rm_in xs bx) (hl : rm_lvr xs lv lv') (hs : rm_all xs st st') (hh : rm_hp xs h h') (e : rm_simple L own ini nL (.arraylength) a b pc bx lv st h = some outs) : rm_Post L xs own ini nL (.arraylength) a b pc outs lv' st' h' := by
  have e9 : (none : Option (List rm_R5)) = some outs := e
  cases e9
end RS

section AEP
theorem ae_sr_cats {n : Nat} {ρ : Nat → Int} : ∀ {s : List ae_V} {t : List Value}, ae_sr n ρ s t → am_cats t = ae_cats s
  | [], [], _ => rfl
  | a :: s, v :: t, q => by
    show v.category + am_cats t = (bif Nat.beq a.1 1 then 2 else 1) + ae_cats s
    rw [ae_sr_cats q.2, ae_cat2 q.1]
  | [], _ :: _, q => absurd q id
  | _ :: _, [], q => absurd q id
variable {ex : Bool} {mo : ae_Mo} {ρ : Nat → Int} {L : Nat} {xs : Nat → Int32} {k : ae_K} {M : List ae_M} {lv : ae_L} {st : List ae_V} {lw : am_L} {sw : List Value} {h : List am_E} {pc : Nat} {o : List ae_R}
theorem ae_al_ok (hr : ae_rok = true) (hf : ae_fok = true) (gH : ae_mm ex ρ L xs k M lv st lw sw h) {t : Nat} (q : ae_al ex t pc k M lv st = some o) : ∃ x i c r, sw = .int x :: .ref (i + 1) :: r ∧ h[i]? = some (.inl (t, (ae_sh (i + 1)).2.2, c)) ∧ (t < 2 → ∃ f, c = .inl f) ∧ (t = 2 → ∃ f, c = .inr (.inl f)) ∧ am_in x (ae_sh (i + 1)).2.2 = true ∧ ae_G ex mo ρ L xs k o (some (pc, lw, ae_cv c x.toNatClampNeg :: r, none)) h := by
  unfold ae_al at q
  split at q
  · rename_i I P R
    cases hb : (Nat.beq I.1 0 && Nat.beq P.1 2 && ae_isA P.2.1 t && ae_ib k P.2.1 I.2.2) with
    | false => rw [hb] at q; cases q
    | true =>
      rw [hb] at q
      simp only [Bool.and_eq_true] at hb
      obtain ⟨⟨⟨b1, b2⟩, b3⟩, b4⟩ := hb
      obtain ⟨v, t', rfl, g1, g2⟩ := ae_sr1 gH.2.2.2.2
      obtain ⟨w, r, rfl, g3, g4⟩ := ae_sr1 g2
      obtain ⟨x, rfl, d1⟩ := ae_ok0 g1 b1
      obtain rfl := ae_ok2 g3 b2
      obtain ⟨i, c, e1, e2, e3, e4, e5, e6⟩ := ae_arr gH.2.2.1.1 b3
      obtain ⟨z1, z2, z3⟩ := ae_ib_ok gH.1 gH.2.1 d1 b4
      rw [e1] at q z2 z3 e3 ⊢
      have hln : ae_ln L (i + 1) = (ae_sh (i + 1)).2.2 := rfl
      rw [hln] at z2 z3
      refine ⟨x, i, c, r, rfl, e3, e4, e5, z3, ?_⟩
      refine ae_rd_ok hr hf (r := R) ⟨gH.1, gH.2.1, gH.2.2.1, gH.2.2.2.1, g4⟩ (j := x.toNatClampNeg) (by rw [ae_clamp z1]; exact d1) ?_ (fun _ => ⟨e2, z2⟩) q
      show (h[i]?.bind fun e => ae_ec e x.toNatClampNeg) = _
      rw [e3]
      show (bif Nat.blt x.toNatClampNeg (ae_sh (i + 1)).2.2 then some (ae_cv c x.toNatClampNeg) else none) = _
      rw [Nat.blt_eq.mpr z2]; rfl
  · cases q
theorem ae_aq_ok {r : List ae_V} {t : List Value} {p : Nat} {e : ae_X} {a s : Nat} {i : Nat} {v : Value} (gH : ae_mm ex ρ L xs k M lv r lw t h) (hd : ae_dn k.1 ρ e ((a + s * i : Nat) : Int)) (hv : ae_io (ae_iv p (a + s * i)) v) : ∀ {n : Nat} {o : List ae_R}, ae_aq ex pc k M lv r p e a s n = some o → i < n → ae_G ex mo ρ L xs k o (some (pc, lw, v :: t, none)) h
  | 0, _, _, hi => absurd hi (Nat.not_lt_zero _)
  | n + 1, o, q, hi => by
    unfold ae_aq at q
    cases hb : Nat.beq (ae_iv p (a + s * n)).1 2 with
    | false => rw [hb] at q; cases q
    | true =>
      rw [hb] at q
      obtain ⟨rs, g2, q⟩ := Option.bind_eq_some_iff.mp q
      cases q
      by_cases hx : i = n
      · subst hx
        obtain ⟨k', m, K', n'⟩ := ae_eq_ask gH.1 hd rfl
        have hv2 : v = .ref (ae_iv p (a + s * i)).2.1.toNat := by
          unfold ae_io at hv
          rw [Nat.eq_of_beq_eq_true hb] at hv
          exact hv
        refine ⟨_, h, rfl, rfl, ae_fr_rf _ _ _ _, _, List.mem_append_left _ (List.mem_map.mpr ⟨k', m, rfl⟩), rfl, ρ, ⟨by rw [n']; exact Nat.le_refl _, ae_ag_rf _ _, K'⟩, K', ⟨by rw [n']; exact gH.2.1.1, gH.2.1.2⟩, by rw [n']; exact gH.2.2.1, by rw [n']; exact gH.2.2.2.1, ?_, by rw [n']; exact gH.2.2.2.2⟩
        exact hv2
      · obtain ⟨z, h1, e1, e2, e3, r2, m, e4⟩ := ae_aq_ok gH hd hv g2 (by omega)
        exact ⟨z, h1, e1, e2, e3, r2, List.mem_append_right _ m, e4⟩
theorem ae_ok_nrk {n : Nat} {a : ae_V} {v : Value} (h : ae_ok n ρ a v) : ae_ok n ρ a v := h
theorem ae_st3 (hr : ae_rok = true) (hf : ae_fok = true) (gH : ae_mm ex ρ L xs k M lv st lw sw h) {t : Nat} (q : ae_as3 ex mo t pc k M lv st = some o) : ∃ z x i c r, sw = z :: .int x :: .ref (i + 1) :: r ∧ h[i]? = some (.inl (t, (ae_sh (i + 1)).2.2, c)) ∧ (t < 2 → ∃ f y, c = .inl f ∧ z = .int y) ∧ (t = 2 → ∃ f y, c = .inr (.inl f) ∧ z = .long y) ∧ am_in x (ae_sh (i + 1)).2.2 = true ∧ x.toNatClampNeg < (ae_sh (i + 1)).2.2 ∧ i < ae_np ∧
    (∀ w h1 ef, (z = w ∨ (t = 1 ∧ ∃ y : Int32, z = .int y ∧ w = .int y.toInt8.toInt32)) → (t = 1 → ∃ y : Int32, z = .int y ∧ w = .int y.toInt8.toInt32) → am_app h ef = some h1 → ae_wr L xs h h1 (i + 1) x.toNatClampNeg w → ae_G ex mo ρ L xs k o (some (pc, lw, r, ef)) h) := by
  unfold ae_as3 at q
  split at q
  · rename_i Z I P R
    cases hb : (Nat.beq Z.1 (bif Nat.beq t 2 then 1 else 0) && Nat.beq I.1 0 && Nat.beq P.1 2 && ae_isA P.2.1 t && ae_ib k P.2.1 I.2.2) with
    | false => rw [hb] at q; cases q
    | true =>
      rw [hb] at q
      simp only [Bool.and_eq_true] at hb
      obtain ⟨⟨⟨⟨b0, b1⟩, b2⟩, b3⟩, b4⟩ := hb
      obtain ⟨z, t0, rfl, g0, g00⟩ := ae_sr1 gH.2.2.2.2
      obtain ⟨v, t', rfl, g1, g2⟩ := ae_sr1 g00
      obtain ⟨w, r, rfl, g3, g4⟩ := ae_sr1 g2
      obtain ⟨x, rfl, d1⟩ := ae_ok0 g1 b1
      obtain rfl := ae_ok2 g3 b2
      obtain ⟨i, c, e1, e2, e3, e4, e5, e6⟩ := ae_arr gH.2.2.1.1 b3
      obtain ⟨z1, z2, z3⟩ := ae_ib_ok gH.1 gH.2.1 d1 b4
      rw [e1] at q z2 z3 e3 ⊢
      have hln : ae_ln L (i + 1) = (ae_sh (i + 1)).2.2 := rfl
      rw [hln] at z2 z3
      have HR : ae_mm ex ρ L xs k M lv R lw r h := ⟨gH.1, gH.2.1, gH.2.2.1, gH.2.2.2.1, g4⟩
      refine ⟨z, x, i, c, r, rfl, e3, fun ht => ?_, fun ht => ?_, z3, z2, e2, fun w' h1 ef hzw ht1 ha hw => ?_⟩
      · obtain ⟨f, hf'⟩ := e4 ht
        have hn2 : Nat.beq t 2 = false := by
          cases hb2 : Nat.beq t 2 with
          | true => have := Nat.eq_of_beq_eq_true hb2; omega
          | false => rfl
        rw [hn2] at b0
        obtain ⟨y, hy, -⟩ := ae_ok0 g0 b0
        exact ⟨f, y, hf', hy⟩
      · obtain ⟨f, hf'⟩ := e5 ht
        subst ht
        obtain ⟨y, hy, -⟩ := ae_ok1 g0 b0
        exact ⟨f, y, hf', hy⟩
      · cases hc : (Nat.beq t 1 && !(ae_rg k Z.2.2 (-128) 127)) with
        | true =>
          rw [hc] at q
          rw [Bool.and_eq_true] at hc
          obtain ⟨y, hy, hw'⟩ := ht1 (Nat.eq_of_beq_eq_true hc.1)
          obtain ⟨ρ1, u1, w1⟩ := ae_ni_ok (x := y.toInt8.toInt32) gH.1 (ae_b8 y).1.1 (ae_b8 y).1.2
          rw [← hw'] at w1
          refine ae_G_up u1 ?_
          exact ae_wt2_ok hr hf (ae_mm_up u1 HR) (j := x.toNatClampNeg) (by rw [ae_clamp z1]; exact ae_dn_ext u1.1 u1.2.1 d1) w1 ha hw q
        | false =>
          rw [hc] at q
          have hval : ae_ok k.1 ρ Z w' := by
            rcases hzw with hzw | ⟨hzw, y, hy, hw'⟩
            · rw [← hzw]; exact g0
            · rw [show Nat.beq t 1 = true by rw [hzw]; rfl, Bool.true_and, Bool.not_eq_false'] at hc
              have h1 := ae_rg_ok gH.1 hc
              have hn2 : Nat.beq t 2 = false := by rw [hzw]; rfl
              rw [hn2] at b0
              obtain ⟨y', hy', d2⟩ := ae_ok0 g0 b0
              rw [hy] at hy'
              cases hy'
              rw [d2.2] at h1
              rw [hw', (ae_b8 y).2 h1.1 h1.2, ← hy]
              exact g0
          exact ae_wt2_ok hr hf HR (j := x.toNatClampNeg) (by rw [ae_clamp z1]; exact d1) hval ha hw q
  · cases q
theorem ae_nar8 (y : Int32) : vp_nar .byte y = y.toInt8.toInt32 := rfl
theorem ae_ft_ok {a b : Nat} {v : ae_V} {w : Value} (hK : ae_okK ρ k) (hv : ae_ok k.1 ρ v w) (q : ae_ft a b k v = true) : am_fit a b w = true := by
  unfold ae_ft at q
  unfold am_fit
  split at q
  · rename_i hty
    obtain ⟨x, rfl, -⟩ := ae_ok0 hv q
    rw [hty]
    show (decide (Value.int x = Value.int x) && true) = true
    rw [decide_eq_true rfl]; rfl
  · rename_i hty
    rw [Bool.and_eq_true] at q
    obtain ⟨x, rfl, d⟩ := ae_ok0 hv q.1
    have h1 := ae_rg_ok hK q.2
    rw [d.2] at h1
    rw [hty]
    rcases ae_01 h1.1 h1.2 with rfl | rfl <;> decide +kernel
  · rename_i hty
    obtain ⟨x, rfl, -⟩ := ae_ok1 hv q
    rw [hty]
    show (decide (Value.long x = Value.long x) && true) = true
    rw [decide_eq_true rfl]; rfl
  · cases q
theorem ae_ld_i {lw : am_L} {i : Nat} {a : ae_V} {v : Value} {n : Nat} (h : ae_ok n ρ a v) (ht : Nat.beq a.1 0 = true) (hl : am_lk lw i = some v) : ∃ x, v = .int x ∧ am_gi lw i = some x := by
  obtain ⟨x, rfl, -⟩ := ae_ok0 h ht
  exact ⟨x, rfl, by unfold am_gi; rw [hl]; rfl⟩
theorem ae_ld_l {lw : am_L} {i : Nat} {a : ae_V} {v : Value} {n : Nat} (h : ae_ok n ρ a v) (ht : Nat.beq a.1 1 = true) (hl : am_lk lw i = some v) : ∃ x, v = .long x ∧ am_gl lw i = some x := by
  obtain ⟨x, rfl, -⟩ := ae_ok1 h ht
  exact ⟨x, rfl, by unfold am_gl; rw [hl]; rfl⟩
theorem ae_ld_r {lw : am_L} {i : Nat} {a : ae_V} {v : Value} {n : Nat} (h : ae_ok n ρ a v) (ht : Nat.beq a.1 2 = true) (hl : am_lk lw i = some v) : ∃ x, v = .ref x ∧ am_gr lw i = some x := by
  obtain rfl := ae_ok2 h ht
  exact ⟨a.2.1, rfl, by unfold am_gr; rw [hl]; rfl⟩
theorem ae_bif {b : Bool} {α : Type} {o : Option α} {x : α} (h : (bif b then o else none) = some x) : b = true ∧ o = some x := by
  cases b with
  | true => exact ⟨rfl, h⟩
  | false => cases h
theorem ae_wl_rg : ∀ j, j < am_wn → (0 : Int) ≤ (nI (am_wl.getD j 0)).toInt ∧ (nI (am_wl.getD j 0)).toInt ≤ 127 := by decide +kernel
set_option maxHeartbeats 4000000 in
theorem ae_sp_ok (hr : ae_rok = true) (hf : ae_fok = true) (gH : ae_mm ex ρ L xs k M lv st lw sw h) {own nL : Nat} {ini : Bool} {i : Instr} {a b : Nat} (q : ae_sp ex mo nL i a b pc k M lv st = some o) : ae_G ex mo ρ L xs k o (am_simple L xs own ini nL i a b pc lw sw h) h := by
  cases i with
  | iconst n => exact ae_ps_i gH q
  | bipush n => exact ae_ps_i gH q
  | sipush n => exact ae_ps_i gH q
  | lconst n => exact ae_ps_l gH q
  | ldc ix =>
    have q : (bif Nat.ble 1000 a then bif Nat.ble (ae_cats st) 8 then (bif Nat.beq a 1000 then ae_ps (pc + 5) k M lv st (0, 0, ae_num (nI am_wn).toInt) else
      (ae_lg lv b).bind fun v => bif Nat.beq v.1 0 && ae_rg k v.2.2 0 ((am_wn : Int) - 1) then ae_ps (pc + 7) (ae_ni k 0 127).1 M lv st (ae_ni k 0 127).2 else none) else none
      else am_CI[a]?.bind fun q => ae_ps (pc + 2) k M lv st (0, 0, ae_num q.2.2.1.toInt)) = some o := q
    show ae_G ex mo ρ L xs k o (bif Nat.ble 1000 a then am_if (Nat.ble (am_cats sw) 8) (bif Nat.beq a 1000 then some (pc + 5, lw, .int (nI am_wn) :: sw, none) else (am_gi lw b).bind fun x => am_if (am_in x am_wn) (some (pc + 7, lw, .int (nI (am_wl.getD x.toNatClampNeg 0)) :: sw, none))) else am_CI[a]?.bind fun q => some (pc + 2, lw, .int q.2.2.1 :: sw, none)) h
    cases h1 : Nat.ble 1000 a with
    | true =>
      rw [h1] at q
      obtain ⟨h8, q⟩ := ae_bif (show (bif Nat.ble (ae_cats st) 8 then _ else none) = some o from q)
      rw [← ae_sr_cats gH.2.2.2.2] at h8
      show ae_G ex mo ρ L xs k o (am_if (Nat.ble (am_cats sw) 8) (bif Nat.beq a 1000 then some (pc + 5, lw, .int (nI am_wn) :: sw, none) else (am_gi lw b).bind fun x => am_if (am_in x am_wn) (some (pc + 7, lw, .int (nI (am_wl.getD x.toNatClampNeg 0)) :: sw, none)))) h
      rw [h8]
      show ae_G ex mo ρ L xs k o (bif Nat.beq a 1000 then some (pc + 5, lw, .int (nI am_wn) :: sw, none) else (am_gi lw b).bind fun x => am_if (am_in x am_wn) (some (pc + 7, lw, .int (nI (am_wl.getD x.toNatClampNeg 0)) :: sw, none))) h
      cases h2 : Nat.beq a 1000 with
      | true => rw [h2] at q; exact ae_ps_i gH q
      | false =>
        rw [h2] at q
        obtain ⟨v, g1, q⟩ := Option.bind_eq_some_iff.mp q
        obtain ⟨hb, q⟩ := ae_bif q
        rw [Bool.and_eq_true] at hb
        obtain ⟨w, g2, g3⟩ := ae_lg_ok gH.2.2.2.1 g1
        obtain ⟨x, rfl, d⟩ := ae_ok0 g3 hb.1
        have g4 := ae_rg_ok gH.1 hb.2
        rw [d.2] at g4
        have g5 : am_gi lw b = some x := by unfold am_gi; rw [g2]; rfl
        have g6 : am_in x am_wn = true := ae_in_ok g4.1 (by omega)
        have g7 := ae_clamp g4.1
        show ae_G ex mo ρ L xs k o ((am_gi lw b).bind fun x => am_if (am_in x am_wn) (some (pc + 7, lw, .int (nI (am_wl.getD x.toNatClampNeg 0)) :: sw, none))) h
        rw [g5]
        show ae_G ex mo ρ L xs k o (am_if (am_in x am_wn) _) h
        rw [g6]
        cases q
        have g8 := ae_wl_rg x.toNatClampNeg (by omega)
        exact ae_G_push gH (ae_ni_ok gH.1 g8.1 g8.2)
    | false =>
      rw [h1] at q
      obtain ⟨z, g1, q⟩ := Option.bind_eq_some_iff.mp q
      show ae_G ex mo ρ L xs k o (am_CI[a]?.bind _) h
      rw [g1]
      exact ae_ps_i gH q
  | ldc_w ix =>
    obtain ⟨z, g1, q⟩ := Option.bind_eq_some_iff.mp q
    show ae_G ex mo ρ L xs k o (am_CI[a]?.bind _) h
    rw [g1]
    exact ae_ps_i gH q
  | ldc2_w ix =>
    obtain ⟨z, g1, q⟩ := Option.bind_eq_some_iff.mp q
    show ae_G ex mo ρ L xs k o (am_CL[a]?.bind _) h
    rw [g1]
    exact ae_ps_l gH q
  | iload_n n =>
    obtain ⟨c, v, g1, g2, g3, g4⟩ := ae_ll_ok (mo := mo) gH q
    obtain ⟨x, rfl, g5⟩ := ae_ld_i g3 g2 g1
    show ae_G ex mo ρ L xs k o ((am_gi lw n.val).bind _) h
    rw [g5]; exact g4
  | iload n =>
    obtain ⟨c, v, g1, g2, g3, g4⟩ := ae_ll_ok (mo := mo) gH q
    obtain ⟨x, rfl, g5⟩ := ae_ld_i g3 g2 g1
    show ae_G ex mo ρ L xs k o ((am_gi lw n).bind _) h
    rw [g5]; exact g4
  | lload_n n =>
    obtain ⟨c, v, g1, g2, g3, g4⟩ := ae_ll_ok (mo := mo) gH q
    obtain ⟨x, rfl, g5⟩ := ae_ld_l g3 g2 g1
    show ae_G ex mo ρ L xs k o ((am_gl lw n.val).bind _) h
    rw [g5]; exact g4
  | lload n =>
    obtain ⟨c, v, g1, g2, g3, g4⟩ := ae_ll_ok (mo := mo) gH q
    obtain ⟨x, rfl, g5⟩ := ae_ld_l g3 g2 g1
    show ae_G ex mo ρ L xs k o ((am_gl lw n).bind _) h
    rw [g5]; exact g4
  | aload_n n =>
    obtain ⟨c, v, g1, g2, g3, g4⟩ := ae_ll_ok (mo := mo) gH q
    obtain ⟨x, rfl, g5⟩ := ae_ld_r g3 g2 g1
    show ae_G ex mo ρ L xs k o ((am_gr lw n.val).bind _) h
    rw [g5]; exact g4
  | aload n =>
    obtain ⟨c, v, g1, g2, g3, g4⟩ := ae_ll_ok (mo := mo) gH q
    obtain ⟨x, rfl, g5⟩ := ae_ld_r g3 g2 g1
    show ae_G ex mo ρ L xs k o ((am_gr lw n).bind _) h
    rw [g5]; exact g4
  | istore_n n =>
    obtain ⟨hb, q⟩ := ae_bif q
    obtain ⟨c, v, r, rfl, g2, g3, g4⟩ := ae_ss_ok (mo := mo) gH q
    obtain ⟨x, rfl, -⟩ := ae_ok0 g3 g2
    show ae_G ex mo ρ L xs k o (am_if (Nat.blt n.val nL) _) h
    rw [hb]; exact g4
  | istore n =>
    obtain ⟨hb, q⟩ := ae_bif q
    obtain ⟨c, v, r, rfl, g2, g3, g4⟩ := ae_ss_ok (mo := mo) gH q
    obtain ⟨x, rfl, -⟩ := ae_ok0 g3 g2
    show ae_G ex mo ρ L xs k o (am_if (Nat.blt n nL) _) h
    rw [hb]; exact g4
  | lstore_n n =>
    obtain ⟨hb, q⟩ := ae_bif q
    obtain ⟨c, v, r, rfl, g2, g3, g4⟩ := ae_ss_ok (mo := mo) gH q
    obtain ⟨x, rfl, -⟩ := ae_ok1 g3 g2
    show ae_G ex mo ρ L xs k o (am_if (Nat.blt (n.val + 1) nL) _) h
    rw [hb]; exact g4
  | lstore n =>
    obtain ⟨hb, q⟩ := ae_bif q
    obtain ⟨c, v, r, rfl, g2, g3, g4⟩ := ae_ss_ok (mo := mo) gH q
    obtain ⟨x, rfl, -⟩ := ae_ok1 g3 g2
    show ae_G ex mo ρ L xs k o (am_if (Nat.blt (n + 1) nL) _) h
    rw [hb]; exact g4
  | astore_n n =>
    obtain ⟨hb, q⟩ := ae_bif q
    obtain ⟨c, v, r, rfl, g2, g3, g4⟩ := ae_ss_ok (mo := mo) gH q
    obtain rfl := ae_ok2 g3 g2
    show ae_G ex mo ρ L xs k o (am_if (Nat.blt n.val nL) _) h
    rw [hb]; exact g4
  | astore n =>
    obtain ⟨hb, q⟩ := ae_bif q
    obtain ⟨c, v, r, rfl, g2, g3, g4⟩ := ae_ss_ok (mo := mo) gH q
    obtain rfl := ae_ok2 g3 g2
    show ae_G ex mo ρ L xs k o (am_if (Nat.blt n nL) _) h
    rw [hb]; exact g4
  | iinc n d =>
    obtain ⟨hb, q⟩ := ae_bif q
    obtain ⟨v, g1, q⟩ := Option.bind_eq_some_iff.mp q
    obtain ⟨hv, q⟩ := ae_bif q
    cases q
    obtain ⟨w, g2, g3⟩ := ae_lg_ok gH.2.2.2.1 g1
    obtain ⟨x, rfl, d1⟩ := ae_ok0 g3 hv
    have g5 : am_gi lw n = some x := by unfold am_gi; rw [g2]; rfl
    have e1 : (x + Int32.ofInt d).toInt = ae_w32 (x.toInt + ae_w32 d) := ae_w_add x (Int32.ofInt d)
    obtain ⟨ρ1, u1, w1⟩ := ae_pi_ok (y := x + Int32.ofInt d) gH.1 (ae_pls_dn (ae_nr_dn gH.1 d1) (ae_w32 d)) e1
    show ae_G ex mo ρ L xs k _ (am_if (Nat.blt n nL) _) h
    rw [hb]
    show ae_G ex mo ρ L xs k _ ((am_gi lw n).bind _) h
    rw [g5]
    have H1 := ae_mm_up u1 gH
    refine ae_G_up u1 ?_
    exact ae_G_pure H1 (ae_p1_ok H1.2.2.2.1 w1) H1.2.2.2.2
  | dup =>
    change ae_q_dup pc k M lv st = some o at q
    unfold ae_q_dup at q
    split at q
    · rename_i v r
      cases hb : Nat.beq v.1 1 with
      | true => rw [hb] at q; cases q
      | false =>
        rw [hb] at q
        cases q
        obtain ⟨w, t, rfl, g1, g2⟩ := ae_sr1 gH.2.2.2.2
        have hc := ae_cat2 g1
        rw [hb] at hc
        have e1 : am_p1 (w :: t) = some (w, t) := by show (bif Nat.beq w.category 1 then some (w, t) else none) = _; rw [hc]; rfl
        show ae_G ex mo ρ L xs k _ ((am_p1 (w :: t)).bind _) h
        rw [e1]
        exact ae_G_pure gH gH.2.2.2.1 ⟨g1, g1, g2⟩
    · cases q
  | dup2 =>
    change ae_q_dup2 pc k M lv st = some o at q
    unfold ae_q_dup2 at q
    split at q
    · rename_i v w r
      cases hb : (Nat.beq v.1 1 || Nat.beq w.1 1) with
      | true => rw [hb] at q; cases q
      | false =>
        rw [hb] at q
        cases q
        rw [Bool.or_eq_false_iff] at hb
        obtain ⟨v', t0, rfl, g1, g2⟩ := ae_sr1 gH.2.2.2.2
        obtain ⟨w', t, rfl, g3, g4⟩ := ae_sr1 g2
        have hc := ae_cat2 g1
        rw [hb.1] at hc
        have hc2 := ae_cat2 g3
        rw [hb.2] at hc2
        have e1 : am_p1 (v' :: w' :: t) = some (v', w' :: t) := by show (bif Nat.beq v'.category 1 then some (v', w' :: t) else none) = _; rw [hc]; rfl
        have e2 : am_p1 (w' :: t) = some (w', t) := by show (bif Nat.beq w'.category 1 then some (w', t) else none) = _; rw [hc2]; rfl
        show ae_G ex mo ρ L xs k _ ((am_p1 (v' :: w' :: t)).bind _) h
        rw [e1]
        show ae_G ex mo ρ L xs k _ ((am_p1 (w' :: t)).bind _) h
        rw [e2]
        exact ae_G_pure gH gH.2.2.2.1 ⟨g1, g3, g1, g3, g4⟩
    · cases q
  | pop =>
    change ae_q_pop pc k M lv st = some o at q
    unfold ae_q_pop at q
    split at q
    · rename_i v r
      cases hb : Nat.beq v.1 1 with
      | true => rw [hb] at q; cases q
      | false =>
        rw [hb] at q
        cases q
        obtain ⟨w, t, rfl, g1, g2⟩ := ae_sr1 gH.2.2.2.2
        have hc := ae_cat2 g1
        rw [hb] at hc
        have e1 : am_p1 (w :: t) = some (w, t) := by show (bif Nat.beq w.category 1 then some (w, t) else none) = _; rw [hc]; rfl
        show ae_G ex mo ρ L xs k _ ((am_p1 (w :: t)).bind _) h
        rw [e1]
        exact ae_G_pure gH gH.2.2.2.1 g2
    · cases q
  | pop2 =>
    change ae_q_pop2 pc k M lv st = some o at q
    unfold ae_q_pop2 at q
    split at q
    · rename_i v r
      obtain ⟨hb, q⟩ := ae_bif q
      cases q
      obtain ⟨w, t, rfl, g1, g2⟩ := ae_sr1 gH.2.2.2.2
      obtain ⟨x, rfl, d⟩ := ae_ok1 g1 hb
      exact ae_G_pure gH gH.2.2.2.1 g2
    · cases q
  | iadd => obtain ⟨x, y, t, rfl, g, -⟩ := ae_bo_ok (mo := mo) (ae_bc_ok ae_gadd_ok) gH q; exact g
  | isub => obtain ⟨x, y, t, rfl, g, -⟩ := ae_bo_ok (mo := mo) (ae_bc_ok ae_gsub_ok) gH q; exact g
  | imul => obtain ⟨x, y, t, rfl, g, -⟩ := ae_bo_ok (mo := mo) (ae_bc_ok ae_gmul_ok) gH q; exact g
  | iand => obtain ⟨x, y, t, rfl, g, -⟩ := ae_bo_ok (mo := mo) (ae_bc_ok ae_gand_ok) gH q; exact g
  | ior => obtain ⟨x, y, t, rfl, g, -⟩ := ae_bo_ok (mo := mo) (ae_bc_ok ae_gor_ok) gH q; exact g
  | ixor => obtain ⟨x, y, t, rfl, g, -⟩ := ae_bo_ok (mo := mo) (ae_bc_ok ae_gxor_ok) gH q; exact g
  | ishl => obtain ⟨x, y, t, rfl, g, -⟩ := ae_bo_ok (mo := mo) (ae_bc_ok (ae_gful_ok _)) gH q; exact g
  | ishr => obtain ⟨x, y, t, rfl, g, -⟩ := ae_bo_ok (mo := mo) (ae_bc_ok (ae_gful_ok _)) gH q; exact g
  | iushr => obtain ⟨x, y, t, rfl, g, -⟩ := ae_bo_ok (mo := mo) (ae_bc_ok (ae_gful_ok _)) gH q; exact g
  | idiv =>
    obtain ⟨x, y, t, rfl, g, hd⟩ := ae_bo_ok (mo := mo) (ae_dv_ok (ae_bc_ok ae_gdiv_ok)) gH q
    have hy := ae_bod gH.1 q hd
    show ae_G ex mo ρ L xs k o (am_if (decide (¬ y = 0)) _) h
    rw [decide_eq_true hy]
    exact g
  | irem =>
    obtain ⟨x, y, t, rfl, g, hd⟩ := ae_bo_ok (mo := mo) (ae_dv_ok (ae_bc_ok ae_grem_ok)) gH q
    have hy := ae_bod gH.1 q hd
    show ae_G ex mo ρ L xs k o (am_if (decide (¬ y = 0)) _) h
    rw [decide_eq_true hy]
    exact g
  | ladd => obtain ⟨x, y, t, rfl, g, -⟩ := ae_bj_ok (mo := mo) ae_hadd_ok gH q; exact g
  | lsub => obtain ⟨x, y, t, rfl, g, -⟩ := ae_bj_ok (mo := mo) ae_hsub_ok gH q; exact g
  | lmul => obtain ⟨x, y, t, rfl, g, -⟩ := ae_bj_ok (mo := mo) ae_hmul_ok gH q; exact g
  | land => obtain ⟨x, y, t, rfl, g, -⟩ := ae_bj_ok (mo := mo) (ae_hful_ok (fun x y => x &&& y)) gH q; exact g
  | lor => obtain ⟨x, y, t, rfl, g, -⟩ := ae_bj_ok (mo := mo) (ae_hful_ok (fun x y => x ||| y)) gH q; exact g
  | ldiv =>
    obtain ⟨x, y, t, rfl, g, hd⟩ := ae_bj_ok (mo := mo) (ae_dw_ok (ae_hful_ok (fun x y => x / y))) gH q
    have hy := ae_bjd gH.1 q hd
    show ae_G ex mo ρ L xs k o (am_if (decide (¬ y = 0)) _) h
    rw [decide_eq_true hy]
    exact g
  | lrem =>
    obtain ⟨x, y, t, rfl, g, hd⟩ := ae_bj_ok (mo := mo) (ae_dw_ok (ae_hful_ok (fun x y => x - x / y * y))) gH q
    have hy := ae_bjd gH.1 q hd
    show ae_G ex mo ρ L xs k o (am_if (decide (¬ y = 0)) _) h
    rw [decide_eq_true hy]
    exact g
  | lshl =>
    change ae_q_lshl pc k M lv st = some o at q
    unfold ae_q_lshl at q
    split at q
    · rename_i Y X R
      obtain ⟨hb, q⟩ := ae_bif q
      cases q
      rw [Bool.and_eq_true] at hb
      obtain ⟨v, t0, rfl, g1, g2⟩ := ae_sr1 gH.2.2.2.2
      obtain ⟨w, t, rfl, g3, g4⟩ := ae_sr1 g2
      obtain ⟨y, rfl, -⟩ := ae_ok0 g1 hb.1
      obtain ⟨x, rfl, -⟩ := ae_ok1 g3 hb.2
      exact ae_G_push (st := R) ⟨gH.1, gH.2.1, gH.2.2.1, gH.2.2.2.1, g4⟩ (ae_nj_ok gH.1 _)
    · cases q
  | lcmp => obtain ⟨x, y, t, rfl, g, -⟩ := ae_bj_ok (mo := mo) ae_hcmp_ok gH q; exact g
  | i2l =>
    change ae_q_i2l pc k M lv st = some o at q
    unfold ae_q_i2l at q
    split at q
    · rename_i v R
      obtain ⟨hb, q⟩ := ae_bif q
      cases q
      obtain ⟨w, t, rfl, g1, g2⟩ := ae_sr1 gH.2.2.2.2
      obtain ⟨x, rfl, d⟩ := ae_ok0 g1 hb
      exact ae_G_push (st := R) ⟨gH.1, gH.2.1, gH.2.2.1, gH.2.2.2.1, g2⟩ (ae_same gH.1 ⟨x.toInt64, rfl, by rw [Int32.toInt_toInt64]; exact d⟩)
    · cases q
  | l2i =>
    change ae_q_l2i pc k M lv st = some o at q
    unfold ae_q_l2i at q
    split at q
    · rename_i v R
      obtain ⟨hb, q⟩ := ae_bif q
      obtain ⟨w, t, rfl, g1, g2⟩ := ae_sr1 gH.2.2.2.2
      obtain ⟨x, rfl, d⟩ := ae_ok1 g1 hb
      have HR : ae_mm ex ρ L xs k M lv R lw t h := ⟨gH.1, gH.2.1, gH.2.2.1, gH.2.2.2.1, g2⟩
      cases hc : ae_rg k v.2.2 (-2147483648) 2147483647 with
      | true =>
        rw [hc] at q
        cases q
        have h1 := ae_rg_ok gH.1 hc
        rw [d.2] at h1
        refine ae_G_push HR (ae_same gH.1 ⟨x.toInt32, rfl, ?_⟩)
        rw [Int64.toInt_toInt32, ← ae_w32_bmod, ae_w32_rg h1.1 h1.2]
        exact ae_nr_dn gH.1 d
      | false =>
        rw [hc] at q
        cases q
        exact ae_G_push HR (ae_nf_ok gH.1 _)
    · cases q
  | i2b =>
    obtain ⟨x, r, rfl, g⟩ := ae_i2_ok (mo := mo) (g := fun x => x.toInt8.toInt32) gH ae_b8 q
    exact g
  | i2s =>
    obtain ⟨x, r, rfl, g⟩ := ae_i2_ok (mo := mo) (g := fun x => x.toInt16.toInt32) gH ae_b16 q
    exact g
  | ifCond c off =>
    change ae_q_ifCond c a pc k M lv st = some o at q
    unfold ae_q_ifCond at q
    split at q
    · rename_i v R
      obtain ⟨hb, q⟩ := ae_bif q
      cases q
      rw [Bool.or_eq_true] at hb
      obtain ⟨w, t, rfl, g1, g2⟩ := ae_sr1 gH.2.2.2.2
      have HR : ae_mm ex ρ L xs k M lv R lw t h := ⟨gH.1, gH.2.1, gH.2.2.1, gH.2.2.2.1, g2⟩
      rcases hb with hb | hb
      · obtain ⟨x, rfl, d⟩ := ae_ok0 g1 hb
        have g := ae_if_ok (mo := mo) HR (ae_nr_dn gH.1 d) c a (pc + 3)
        rw [← ae_cm1_eq] at g
        exact g
      · obtain ⟨y, d, rfl⟩ := ae_ok4 g1 hb
        have g := ae_if_ok (mo := mo) HR (ae_nr_dn gH.1 d) c a (pc + 3)
        rw [← ae_cm4_eq] at g
        exact g
    · cases q
  | if_icmp c off =>
    change ae_q_if_icmp c a pc k M lv st = some o at q
    unfold ae_q_if_icmp at q
    split at q
    · rename_i Y X R
      obtain ⟨hb, q⟩ := ae_bif q
      cases q
      rw [Bool.and_eq_true] at hb
      obtain ⟨v, t0, rfl, g1, g2⟩ := ae_sr1 gH.2.2.2.2
      obtain ⟨w, t, rfl, g3, g4⟩ := ae_sr1 g2
      obtain ⟨y, rfl, d1⟩ := ae_ok0 g1 hb.1
      obtain ⟨x, rfl, d2⟩ := ae_ok0 g3 hb.2
      have HR : ae_mm ex ρ L xs k M lv R lw t h := ⟨gH.1, gH.2.1, gH.2.2.1, gH.2.2.2.1, g4⟩
      have g := ae_if_ok (mo := mo) HR (ae_sub_dn d2 d1) c a (pc + 3)
      rw [← ae_cm2_eq] at g
      exact g
    · cases q
  | goto off => cases q; exact ae_G_pure gH gH.2.2.2.1 gH.2.2.2.2
  | tableswitch d lo hi offs =>
    change ae_q_tableswitch d lo hi offs pc k M lv st = some o at q
    unfold ae_q_tableswitch at q
    split at q
    · rename_i v R
      obtain ⟨hb, q⟩ := ae_bif q
      obtain ⟨t, e1, q⟩ := Option.bind_eq_some_iff.mp q
      obtain ⟨rs, e2, q⟩ := Option.bind_eq_some_iff.mp q
      obtain ⟨hl, q⟩ := ae_bif q
      have hl := of_decide_eq_true hl
      cases q
      obtain ⟨w, t', rfl, g1, g2⟩ := ae_sr1 gH.2.2.2.2
      have HR : ae_mm ex ρ L xs k M lv R lw t' h := ⟨gH.1, gH.2.1, gH.2.2.1, gH.2.2.2.1, g2⟩
      obtain ⟨x, rfl, d0⟩ := ae_ok0 g1 hb
      have d1 := ae_nr_dn gH.1 d0
      show ae_G ex mo ρ L xs k _ ((bif decide (x.toInt < lo) || decide (hi < x.toInt) then am_sw pc d else (offs[(x.toInt - lo).toNat]?).bind (am_sw pc)).bind fun t => some (t, lw, t', none)) h
      by_cases c1 : x.toInt < lo
      · rw [decide_eq_true c1]
        show ae_G ex mo ρ L xs k _ ((am_sw pc d).bind fun t => some (t, lw, t', none)) h
        rw [e1]
        obtain ⟨k', m, K', n'⟩ := ae_as_ok gH.1 (ae_pls_dn d1 (1 - lo)) (by omega)
        exact ae_G_mem HR (List.mem_append_left _ (List.mem_map.mpr ⟨k', List.mem_append_left _ m, rfl⟩)) K' n'
      · rw [decide_eq_false c1]
        by_cases c2 : hi < x.toInt
        · rw [decide_eq_true c2]
          show ae_G ex mo ρ L xs k _ ((am_sw pc d).bind fun t => some (t, lw, t', none)) h
          rw [e1]
          obtain ⟨k', m, K', n'⟩ := ae_as_ok gH.1 (ae_neg_dn d1 (hi + 1)) (by omega)
          exact ae_G_mem HR (List.mem_append_left _ (List.mem_map.mpr ⟨k', List.mem_append_right _ m, rfl⟩)) K' n'
        · rw [decide_eq_false c2]
          obtain ⟨g, k', z1, z2, K', n'⟩ := ae_tw_ok HR d1 e2 (by omega) (by omega)
          rw [Array.getElem?_toList] at z1
          show ae_G ex mo ρ L xs k _ (((offs[(x.toInt - lo).toNat]?).bind (am_sw pc)).bind fun t => some (t, lw, t', none)) h
          rw [z1]
          exact ae_G_mem HR (List.mem_append_right _ z2) K' n'
    · cases q
  | getfield ix =>
    change ae_q_getfield ex a b pc k M lv st = some o at q
    unfold ae_q_getfield at q
    split at q
    · rename_i v R
      obtain ⟨hb, q⟩ := ae_bif q
      rw [Bool.and_eq_true] at hb
      obtain ⟨w, t, rfl, g1, g2⟩ := ae_sr1 gH.2.2.2.2
      obtain rfl := ae_ok2 g1 hb.1
      have HR : ae_mm ex ρ L xs k M lv R lw t h := ⟨gH.1, gH.2.1, gH.2.2.1, gH.2.2.2.1, g2⟩
      obtain ⟨i, fs, e1, e2, e3, e4, e5, e6⟩ := ae_obj gH.2.2.1.1 hb.2
      show ae_G ex mo ρ L xs k o ((am_ob h v.2.1 a).bind fun fs => fs[b]?.bind fun w => some (pc + 3, lw, w :: t, none)) h
      rw [e6]
      show ae_G ex mo ρ L xs k o (fs[b]?.bind fun w => some (pc + 3, lw, w :: t, none)) h
      rw [List.getElem?_eq_getElem e4]
      refine ae_rd_ok hr hf HR (j := b) (ae_num_dn _) ?_ (fun _ => ⟨by rw [e1]; exact e2, by rw [← e5]; exact e4⟩) q
      rw [e1]
      show (h[i]?.bind fun e => ae_ec e b) = _
      rw [e3]
      exact List.getElem?_eq_getElem e4
    · cases q
  | putfield ix =>
    change ae_q_putfield ex mo a b pc k M lv st = some o at q
    unfold ae_q_putfield at q
    split at q
    · rename_i V P R
      obtain ⟨hb, q⟩ := ae_bif q
      simp only [Bool.and_eq_true, Bool.not_eq_true'] at hb
      obtain ⟨⟨⟨b1, b2⟩, b3⟩, b4⟩ := hb
      obtain ⟨v, t0, rfl, g1, g2⟩ := ae_sr1 gH.2.2.2.2
      obtain ⟨w, t, rfl, g3, g4⟩ := ae_sr1 g2
      obtain rfl := ae_ok2 g3 b1
      have HR : ae_mm ex ρ L xs k M lv R lw t h := ⟨gH.1, gH.2.1, gH.2.2.1, gH.2.2.2.1, g4⟩
      obtain ⟨i, fs, e1, e2, e3, e4, e5, e6⟩ := ae_obj gH.2.2.1.1 b2
      have hfit := ae_ft_ok gH.1 g1 b3
      show ae_G ex mo ρ L xs k o ((am_ob h P.2.1 a).bind fun fs => am_if (Nat.blt b fs.length && am_fit a b v && (!(am_fin a b) || (ini && Nat.beq own a))) (some (pc + 3, lw, t, some (some (P.2.1 - 1), .inr (a, fs.set b v))))) h
      rw [e6]
      show ae_G ex mo ρ L xs k o (am_if (Nat.blt b fs.length && am_fit a b v && (!(am_fin a b) || (ini && Nat.beq own a))) (some (pc + 3, lw, t, some (some (P.2.1 - 1), .inr (a, fs.set b v))))) h
      rw [Nat.blt_eq.mpr e4, hfit, b4]
      obtain ⟨s1, s2⟩ := ae_set_o (L := L) (xs := xs) gH.2.2.1.1 e2 e3 e4 v
      have e7 : P.2.1 - 1 = i := by rw [e1]; rfl
      rw [e7]
      rw [e1] at q
      exact ae_wt2_ok hr hf HR (j := b) (ae_num_dn _) g1 s1 s2 q
    · cases q
  | iaload =>
    change ae_al0 ex (pc + 1) k M lv st = some o at q
    unfold ae_al0 at q
    split at q
    · rename_i I P R
      cases hb : (Nat.beq I.1 0 && Nat.beq P.1 2 && Nat.beq P.2.1 0) with
      | true =>
        rw [hb] at q
        obtain ⟨hi, q⟩ := ae_bif q
        simp only [Bool.and_eq_true] at hb
        obtain ⟨⟨b1, b2⟩, b3⟩ := hb
        obtain ⟨v, t0, rfl, g1, g2⟩ := ae_sr1 gH.2.2.2.2
        obtain ⟨w, t, rfl, g3, g4⟩ := ae_sr1 g2
        obtain ⟨x, rfl, d1⟩ := ae_ok0 g1 b1
        obtain rfl := ae_ok2 g3 b2
        have HR : ae_mm ex ρ L xs k M lv R lw t h := ⟨gH.1, gH.2.1, gH.2.2.1, gH.2.2.2.1, g4⟩
        obtain ⟨z1, z2, z3⟩ := ae_ib_ok gH.1 gH.2.1 d1 hi
        have hln : ae_ln L 0 = L := rfl
        rw [hln] at z2 z3
        rw [Nat.eq_of_beq_eq_true b3]
        show ae_G ex mo ρ L xs k o (am_if (am_in x L) (some (pc + 1, lw, .int (xs x.toNatClampNeg) :: t, none))) h
        rw [z3]
        refine ae_rd_ok hr hf HR (j := x.toNatClampNeg) (by rw [ae_clamp z1]; exact d1) ?_ (fun h0 => absurd h0 (Nat.lt_irrefl 0)) q
        show (bif Nat.blt x.toNatClampNeg L then some (Value.int (xs x.toNatClampNeg)) else none) = _
        rw [Nat.blt_eq.mpr z2]; rfl
      | false =>
        rw [hb] at q
        obtain ⟨x, i, c, r, rfl, e1, e2, -, e3, g⟩ := ae_al_ok (mo := mo) hr hf gH q
        obtain ⟨f, rfl⟩ := e2 (by decide)
        have e4 : am_ai h (i + 1) 0 = some ((ae_sh (i + 1)).2.2, f) := by
          show (match h[i]? with
            | some (.inl (c, n, .inl f)) => am_if (Nat.beq c 0) (some (n, f))
            | _ => none) = _
          rw [e1]; rfl
        show ae_G ex mo ρ L xs k o ((am_ai h (i + 1) 0).bind fun c => am_if (am_in x c.1) (some (pc + 1, lw, .int (c.2 x.toNatClampNeg) :: r, none))) h
        rw [e4]
        show ae_G ex mo ρ L xs k o (am_if (am_in x (ae_sh (i + 1)).2.2) _) h
        rw [e3]
        exact g
    · cases q
  | baload =>
    obtain ⟨x, i, c, r, rfl, e1, e2, -, e3, g⟩ := ae_al_ok (mo := mo) hr hf gH q
    obtain ⟨f, rfl⟩ := e2 (by decide)
    have e4 : am_ai h (i + 1) 1 = some ((ae_sh (i + 1)).2.2, f) := by
      show (match h[i]? with
        | some (.inl (c, n, .inl f)) => am_if (Nat.beq c 1) (some (n, f))
        | _ => none) = _
      rw [e1]; rfl
    show ae_G ex mo ρ L xs k o ((am_ai h (i + 1) 1).bind fun c => am_if (am_in x c.1) (some (pc + 1, lw, .int (c.2 x.toNatClampNeg) :: r, none))) h
    rw [e4]
    show ae_G ex mo ρ L xs k o (am_if (am_in x (ae_sh (i + 1)).2.2) _) h
    rw [e3]
    exact g
  | laload =>
    obtain ⟨x, i, c, r, rfl, e1, -, e2, e3, g⟩ := ae_al_ok (mo := mo) hr hf gH q
    obtain ⟨f, rfl⟩ := e2 rfl
    have e4 : am_al h (i + 1) = some ((ae_sh (i + 1)).2.2, f) := by
      show (match h[i]? with
        | some (.inl (c, n, .inr (.inl f))) => am_if (Nat.beq c 2) (some (n, f))
        | _ => none) = _
      rw [e1]; rfl
    show ae_G ex mo ρ L xs k o ((am_al h (i + 1)).bind fun c => am_if (am_in x c.1) (some (pc + 1, lw, .long (c.2 x.toNatClampNeg) :: r, none))) h
    rw [e4]
    show ae_G ex mo ρ L xs k o (am_if (am_in x (ae_sh (i + 1)).2.2) _) h
    rw [e3]
    exact g
  | aaload =>
    change ae_alq ex (pc + 1) k M lv st = some o at q
    unfold ae_alq at q
    split at q
    · rename_i I P R
      obtain ⟨hb, q⟩ := ae_bif q
      obtain ⟨⟨ja, js, jn⟩, hjs, q⟩ := Option.bind_eq_some_iff.mp q
      obtain ⟨-, q⟩ := ae_bif q
      simp only [Bool.and_eq_true] at hb
      obtain ⟨⟨⟨⟨⟨⟨⟨b1, b2⟩, b3⟩, b4⟩, b5⟩, b6⟩, b7⟩, b8⟩ := hb
      obtain ⟨v, t0, rfl, g1, g2⟩ := ae_sr1 gH.2.2.2.2
      obtain ⟨w, t, rfl, g3, g4⟩ := ae_sr1 g2
      obtain ⟨x, rfl, d1⟩ := ae_ok0 g1 b1
      obtain rfl := ae_ok2 g3 b2
      have HR : ae_mm ex ρ L xs k M lv R lw t h := ⟨gH.1, gH.2.1, gH.2.2.1, gH.2.2.2.1, g4⟩
      obtain ⟨i, c, e1, e2, e3, e4, e5, e6⟩ := ae_arr gH.2.2.1.1 b3
      obtain ⟨z1, z2, z3⟩ := ae_ib_ok gH.1 gH.2.1 d1 b6
      obtain ⟨f, rfl⟩ := e6 (Nat.le_of_ble_eq_true b4)
      have d2 : ae_dn k.1 ρ (ae_nr k I.2.2) (x.toNatClampNeg : Int) := by rw [ae_clamp z1]; exact ae_nr_dn gH.1 d1
      have hln : ae_ln L P.2.1 = (ae_sh P.2.1).2.2 := by rw [e1]; rfl
      rw [hln] at z2 z3
      have hcell : ae_cell L xs h P.2.1 x.toNatClampNeg = some (va_rf (f x.toNatClampNeg)) := by
        rw [e1]
        show (h[i]?.bind fun e => ae_ec e x.toNatClampNeg) = _
        rw [e3]
        show (bif Nat.blt x.toNatClampNeg (ae_sh P.2.1).2.2 then some (va_rf (f x.toNatClampNeg)) else none) = _
        rw [Nat.blt_eq.mpr z2]; rfl
      have hio : ae_io (ae_iv P.2.1 x.toNatClampNeg) (va_rf (f x.toNatClampNeg)) := by
        rcases gH.2.2.1.2.2.1 P.2.1 x.toNatClampNeg _ (by rw [e1]; exact Nat.succ_pos i) hcell with g | g | g
        · exact g
        · exact absurd g (ae_nd_ok gH.1 d2.2 b7)
        · rw [ae_nx_ok gH.1 d2.2 b8] at g; exact absurd g.2 (by decide)
      obtain ⟨ii, hii, hij⟩ := ae_js_ok gH.1 d2.2 hjs
      have e7 : am_aq h P.2.1 = some ((ae_sh P.2.1).2.1, (ae_sh P.2.1).2.2, f) := by
        rw [e1] at e3 b4 b5 ⊢
        show (match h[i]? with
          | some (.inl (c, n, .inr (.inr (.inr (.inr f))))) => am_if (Nat.ble 3 c && Nat.blt c 9) (some (c, n, f))
          | _ => none) = _
        rw [e3]
        show am_if (Nat.ble 3 (ae_sh (i + 1)).2.1 && Nat.blt (ae_sh (i + 1)).2.1 9) _ = _
        rw [b4, b5]; rfl
      show ae_G ex mo ρ L xs k o ((am_aq h P.2.1).bind fun c => am_if (am_in x c.2.1) (some (pc + 1, lw, va_rf (c.2.2 x.toNatClampNeg) :: t, none))) h
      rw [e7]
      show ae_G ex mo ρ L xs k o (am_if (am_in x (ae_sh P.2.1).2.2) (some (pc + 1, lw, va_rf (f x.toNatClampNeg) :: t, none))) h
      rw [z3]
      rw [hij] at d2 hio
      have hv : va_rf (f x.toNatClampNeg) = va_rf (f (ja + js * ii)) := by rw [hij]
      show ae_G ex mo ρ L xs k o (some (pc + 1, lw, va_rf (f x.toNatClampNeg) :: t, none)) h
      rw [hv]
      exact ae_aq_ok HR d2 hio q hii
    · cases q
  | iastore =>
    obtain ⟨z, x, i, c, r, rfl, e1, e2, -, e3, e4, e5, g⟩ := ae_st3 hr hf gH q
    obtain ⟨f, y, rfl, rfl⟩ := e2 (by decide)
    have e6 : am_ai h (i + 1) 0 = some ((ae_sh (i + 1)).2.2, f) := by
      show (match h[i]? with
        | some (.inl (c, n, .inl f)) => am_if (Nat.beq c 0) (some (n, f))
        | _ => none) = _
      rw [e1]; rfl
    obtain ⟨s1, s2⟩ := ae_set_i (L := L) (xs := xs) gH.2.2.1.1 e5 e1 e4 y
    show ae_G ex mo ρ L xs k o ((am_ai h (i + 1) 0).bind fun c => am_if (am_in x c.1) (some (pc + 1, lw, r, some (some (i + 1 - 1), .inl (0, c.1, .inl (upd c.2 x.toNatClampNeg y)))))) h
    rw [e6]
    show ae_G ex mo ρ L xs k o (am_if (am_in x (ae_sh (i + 1)).2.2) _) h
    rw [e3]
    exact g (.int y) _ _ (Or.inl rfl) (fun q => by cases q) s1 s2
  | bastore =>
    obtain ⟨z, x, i, c, r, rfl, e1, e2, -, e3, e4, e5, g⟩ := ae_st3 hr hf gH q
    obtain ⟨f, y, rfl, rfl⟩ := e2 (by decide)
    have e6 : am_ai h (i + 1) 1 = some ((ae_sh (i + 1)).2.2, f) := by
      show (match h[i]? with
        | some (.inl (c, n, .inl f)) => am_if (Nat.beq c 1) (some (n, f))
        | _ => none) = _
      rw [e1]; rfl
    obtain ⟨s1, s2⟩ := ae_set_i (L := L) (xs := xs) gH.2.2.1.1 e5 e1 e4 (vp_nar .byte y)
    show ae_G ex mo ρ L xs k o ((am_ai h (i + 1) 1).bind fun c => am_if (am_in x c.1) (some (pc + 1, lw, r, some (some (i + 1 - 1), .inl (1, c.1, .inl (upd c.2 x.toNatClampNeg (vp_nar .byte y))))))) h
    rw [e6]
    show ae_G ex mo ρ L xs k o (am_if (am_in x (ae_sh (i + 1)).2.2) _) h
    rw [e3]
    exact g (.int (vp_nar .byte y)) _ _ (Or.inr ⟨rfl, y, rfl, by rw [ae_nar8]⟩) (fun _ => ⟨y, rfl, by rw [ae_nar8]⟩) s1 s2
  | lastore =>
    obtain ⟨z, x, i, c, r, rfl, e1, -, e2, e3, e4, e5, g⟩ := ae_st3 hr hf gH q
    obtain ⟨f, y, rfl, rfl⟩ := e2 rfl
    have e6 : am_al h (i + 1) = some ((ae_sh (i + 1)).2.2, f) := by
      show (match h[i]? with
        | some (.inl (c, n, .inr (.inl f))) => am_if (Nat.beq c 2) (some (n, f))
        | _ => none) = _
      rw [e1]; rfl
    obtain ⟨s1, s2⟩ := ae_set_l (L := L) (xs := xs) gH.2.2.1.1 e5 e1 e4 y
    show ae_G ex mo ρ L xs k o ((am_al h (i + 1)).bind fun c => am_if (am_in x c.1) (some (pc + 1, lw, r, some (some (i + 1 - 1), .inl (2, c.1, .inr (.inl (vp_updL c.2 x.toNatClampNeg y))))))) h
    rw [e6]
    show ae_G ex mo ρ L xs k o (am_if (am_in x (ae_sh (i + 1)).2.2) _) h
    rw [e3]
    exact g (.long y) _ _ (Or.inl rfl) (fun q => by cases q) s1 s2
  | arraylength =>
    change ae_q_arraylength pc k M lv st = some o at q
    unfold ae_q_arraylength at q
    split at q
    · rename_i P R
      obtain ⟨hb, q⟩ := ae_bif q
      cases q
      rw [Bool.and_eq_true] at hb
      obtain ⟨w, t, rfl, g1, g2⟩ := ae_sr1 gH.2.2.2.2
      obtain rfl := ae_ok2 g1 hb.1
      rw [Nat.eq_of_beq_eq_true hb.2]
      have HR : ae_mm ex ρ L xs k M lv R lw t h := ⟨gH.1, gH.2.1, gH.2.2.1, gH.2.2.2.1, g2⟩
      have h0 := ae_sym_dn (ρ := ρ) gH.2.1.1.1
      rw [gH.2.1.2] at h0
      have h1 : (Int32.ofNat L).toInt = (L : Int) := nI_toInt gH.2.1.1.2
      exact ae_G_push HR (ae_same gH.1 ⟨Int32.ofNat L, rfl, by rw [h1]; exact h0⟩)
    · cases q
  | _ => cases q
end AEP

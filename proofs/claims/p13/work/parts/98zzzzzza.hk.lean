/-! Hooks by cases: more is known, a sign, a value, a cell's value -/
section AHS
variable {G : List am_E → Prop} {L : Nat} {xs : Nat → Int32} {Q : Option Value → Option Value → List am_E → List am_E → Prop} {mo : ae_Mo} {ρ : Nat → Int} {g1 g2 : ap_cT} {h1 h2 : List am_E}
theorem ah_k {z : ab_St} {k' : ae_K} (S : ab_sat G L xs ρ z g1 g2 h1 h2) (K : ae_okK ρ k') (n : k'.1 = z.k.1) : ab_sat G L xs ρ (k', z.2) g1 g2 h1 h2 ∧ ae_up2 ρ z.k ρ k' := by
  obtain ⟨S1, S2, S4, S5, S6, S7, S8, S9, S10⟩ := S
  refine ⟨⟨K, ⟨⟨by show 0 < k'.1; rw [n]; exact S2.1.1, S2.1.2⟩, S2.2⟩, ?_, ?_, ?_, S7, S8, S9, ?_⟩, ⟨by show z.k.1 ≤ k'.1; omega, ae_ag_rf _ _, K⟩⟩
  · show ae_hp false k'.1 ρ L xs z.m (am_mX2 ap_b false h1 h2)
    rw [n]; exact S4
  · show ap_tt k'.1 ρ z.t1 g1
    rw [n]; exact S5
  · show ap_tt k'.1 ρ z.t2 g2
    rw [n]; exact S6
  · show ab_old k'.1 ρ L xs z.o z.w z.T (am_mX2 ap_b false h1 h2)
    rw [n]; exact S10
theorem ah_ks {z : ab_St} {ks : List ae_K} (S : ab_sat G L xs ρ z g1 g2 h1 h2) (hk : ∃ k' ∈ ks, ae_okK ρ k' ∧ k'.1 = z.k.1) : ∃ z' ∈ ks.map (fun k => ((k, z.2) : ab_St)), ∃ ρ' g1' g2' h1' h2', ae_up2 ρ z.k ρ' (ab_St.k z') ∧ ab_sat G L xs ρ' z' g1' g2' h1' h2' ∧ (ap_end mo L xs Q g1' g2' h1' h2' → ap_end mo L xs Q g1 g2 h1 h2) := by
  obtain ⟨k', m, K, n⟩ := hk
  obtain ⟨S', u⟩ := ah_k S K n
  exact ⟨_, List.mem_map.mpr ⟨k', m, rfl⟩, ρ, g1, g2, h1, h2, u, S', id⟩
noncomputable def ah_sg (k : ae_K) (e : ae_X) : List ae_K := ae_as k e ++ ae_as k (ae_neg e 1)
theorem ah_sg_ok {k : ae_K} {e : ae_X} (K : ae_okK ρ k) (w : ae_wt k.1 e.2) : ∃ k' ∈ ah_sg k e, ae_okK ρ k' ∧ k'.1 = k.1 := by
  by_cases h : ae_ev ρ e ≤ 0
  · obtain ⟨k', m, a⟩ := ae_as_ok K (⟨w, rfl⟩ : ae_dn k.1 ρ e _) h
    exact ⟨k', List.mem_append_left _ m, a⟩
  · obtain ⟨k', m, a⟩ := ae_as_ok K (ae_neg_dn (⟨w, rfl⟩ : ae_dn k.1 ρ e _) 1) (by omega)
    exact ⟨k', List.mem_append_right _ m, a⟩
noncomputable def ah_vs (k : ae_K) (e : ae_X) : Option (List ae_K) := match e.2 with
  | [] => some [k]
  | [t] => (ae_lo k (ae_sym t.1)).bind fun a => (ae_hi k (ae_sym t.1)).bind fun b => bif ae_le (b - a) 64 then some ((List.range (b - a + 1).toNat).flatMap fun (q : Nat) => ae_ask k [ae_pls e (-(e.1 + t.2 * (a + (q : Int)))), ae_neg e (e.1 + t.2 * (a + (q : Int)))]) else none
  | _ => none
theorem ah_vs_ok {k : ae_K} {e : ae_X} {ks : List ae_K} (K : ae_okK ρ k) (w : ae_wt k.1 e.2) (q : ah_vs k e = some ks) : ∃ k' ∈ ks, ae_okK ρ k' ∧ k'.1 = k.1 := by
  unfold ah_vs at q
  split at q
  · cases q
    exact ⟨k, List.mem_singleton.mpr rfl, K, rfl⟩
  · rename_i t ht
    obtain ⟨a, ha, q⟩ := Option.bind_eq_some_iff.mp q
    obtain ⟨b, hb, q⟩ := Option.bind_eq_some_iff.mp q
    obtain ⟨-, q⟩ := ae_bif q
    cases q
    have es : ae_ev ρ (ae_sym t.1) = ρ t.1 := (ae_sym_dn (n := t.1 + 1) (Nat.lt_succ_self t.1)).2
    have la := ae_lo_ok K ha
    have lb := ae_hi_ok K hb
    rw [es] at la lb
    have ev : ae_ev ρ e = e.1 + (t.2 * ρ t.1 + 0) := by
      unfold ae_ev
      rw [ht]
      rfl
    have eq : a + (((ρ t.1 - a).toNat : Nat) : Int) = ρ t.1 := by omega
    obtain ⟨k', m, K', n'⟩ := ae_ask_ok (es := [ae_pls e (-(e.1 + t.2 * (a + (((ρ t.1 - a).toNat : Nat) : Int)))), ae_neg e (e.1 + t.2 * (a + (((ρ t.1 - a).toNat : Nat) : Int)))]) K (fun x hx => by
      rw [eq] at hx
      rcases List.mem_cons.mp hx with rfl | hx
      · have d := ae_pls_dn (⟨w, rfl⟩ : ae_dn k.1 ρ e _) (-(e.1 + t.2 * ρ t.1))
        exact ⟨d.1, by rw [d.2]; omega⟩
      · rw [List.mem_singleton.mp hx]
        have d := ae_neg_dn (⟨w, rfl⟩ : ae_dn k.1 ρ e _) (e.1 + t.2 * ρ t.1)
        exact ⟨d.1, by rw [d.2]; omega⟩)
    exact ⟨k', List.mem_flatMap.mpr ⟨(ρ t.1 - a).toNat, List.mem_range.mpr (by omega), m⟩, K', n'⟩
  · cases q
/-- a cell is looked at -/
noncomputable def ah_ld (z : ab_St) (p j : Nat) : ab_St := ((ab_lq z.T z.w (z.k, z.m, z.o) p j).1, (ab_lq z.T z.w (z.k, z.m, z.o) p j).2.1, (ab_lq z.T z.w (z.k, z.m, z.o) p j).2.2, z.w, z.T, z.t1, z.t2)
theorem ah_ld_ok (hr : ae_rok = true) {z : ab_St} (S : ab_sat G L xs ρ z g1 g2 h1 h2) (p j : Nat) : ∃ ρ', ae_up2 ρ z.k ρ' (ah_ld z p j).k ∧ ab_sat G L xs ρ' (ah_ld z p j) g1 g2 h1 h2 := by
  obtain ⟨S1, S2, S4, S5, S6, S7, S8, S9, h0, r1, r2, r3⟩ := S
  obtain ⟨ρ', u, S'⟩ := ab_lq_ok hr r1 r2 (z := (z.k, z.m, z.o)) ⟨S1, S4, r3⟩ p j
  exact ⟨ρ', u, S'.1, ae_k0_up S2 u, S'.2.1, ap_tt_ext u.1 u.2.1 S5, ap_tt_ext u.1 u.2.1 S6, S7, S8, S9, h0, r1, r2, S'.2.2⟩
noncomputable def ah_cs (z : ab_St) (p j : Nat) : Option (List ab_St) := (ab_ov (ah_ld z p j).k (ah_ld z p j).m p (ae_num (j : Int))).bind fun x => (ah_vs (ah_ld z p j).k (ae_nr (ah_ld z p j).k x)).map fun ks => ks.map fun k => ((k, (ah_ld z p j).2) : ab_St)
theorem ah_cs_ok (hr : ae_rok = true) {z : ab_St} {p j : Nat} {o : List ab_St} (q : ah_cs z p j = some o) (S : ab_sat G L xs ρ z g1 g2 h1 h2) : ∃ z' ∈ o, ∃ ρ' g1' g2' h1' h2', ae_up2 ρ z.k ρ' z'.k ∧ ab_sat G L xs ρ' z' g1' g2' h1' h2' ∧ (ap_end mo L xs Q g1' g2' h1' h2' → ap_end mo L xs Q g1 g2 h1 h2) := by
  obtain ⟨x, hx, q⟩ := Option.bind_eq_some_iff.mp q
  obtain ⟨ρ1, u1, S'⟩ := ah_ld_ok hr S p j
  cases hv : ah_vs (ah_ld z p j).k (ae_nr (ah_ld z p j).k x) with
  | none => rw [hv] at q; cases q
  | some ks =>
    rw [hv] at q
    cases q
    have d := ae_nr_dn S'.1 (ab_ov_ok S'.1 S'.2.2.1.2.1 (ae_num_dn (j : Int)) hx)
    obtain ⟨z', m, ρ2, g1', g2', h1', h2', u2, S2, fin⟩ := ah_ks (mo := mo) (Q := Q) S' (ah_vs_ok S'.1 d.1 hv)
    exact ⟨z', m, ρ2, g1', g2', h1', h2', u1.tr u2, S2, fin⟩
end AHS
theorem dv_val {X Y : Int32} (h1 : 0 ≤ X.toInt) (h2 : 1 ≤ Y.toInt) : (X / Y).toInt = X.toInt / Y.toInt ∧ (X - X / Y * Y).toInt = X.toInt % Y.toInt := by
  have h3 : (X / Y).toInt = (X.toInt.tdiv Y.toInt).bmod (2 ^ 32) := Int32.toInt_div X Y
  have h4 : X.toInt.tdiv Y.toInt = X.toInt / Y.toInt := Int.tdiv_eq_ediv_of_nonneg (by omega)
  have h5 : 0 ≤ X.toInt / Y.toInt := Int.ediv_nonneg (by omega) (by omega)
  have h6 : X.toInt / Y.toInt ≤ X.toInt := Int.ediv_le_self _ (by omega)
  have h7 := Int32.toInt_lt X
  have h8 : (X.toInt / Y.toInt).bmod (2 ^ 32) = X.toInt / Y.toInt := by rw [← ae_w32_bmod, ae_w32_rg (by omega) (by omega)]
  have e : (X / Y).toInt = X.toInt / Y.toInt := by rw [h3, h4, h8]
  have m1 : X.toInt / Y.toInt * Y.toInt + X.toInt % Y.toInt = X.toInt := by rw [Int.mul_comm]; exact Int.mul_ediv_add_emod X.toInt Y.toInt
  have m2 : 0 ≤ X.toInt % Y.toInt := Int.emod_nonneg _ (by omega)
  have m3 : 0 ≤ X.toInt / Y.toInt * Y.toInt := Int.mul_nonneg h5 (by omega)
  have ev : (X / Y * Y).toInt = X.toInt / Y.toInt * Y.toInt := by rw [ae_w_mul, e, ae_w32_rg (by omega) (by omega)]
  refine ⟨e, ?_⟩
  rw [ae_w_sub, ev, ae_w32_rg (by omega) (by omega)]
  omega
/-! Both multiply, or divide, the same numbers -/
noncomputable def ah_kd (f : ap_F) : Nat := match am_code f.2.1 f.2.2.1 with
  | some q => (match q.1 with
    | .imul => 1
    | .idiv => 2
    | .irem => 3
    | _ => 0)
  | none => 0
theorem ah_kd_ok {f : ap_F} (q : Nat.blt 0 (ah_kd f) = true) : ∃ i a b, am_code f.2.1 f.2.2.1 = some (i, a, b) ∧ ((i = .imul ∧ ah_kd f = 1) ∨ (i = .idiv ∧ ah_kd f = 2) ∨ (i = .irem ∧ ah_kd f = 3)) := by
  unfold ah_kd at q ⊢
  split at q
  · rename_i c hc
    obtain ⟨i, a, b⟩ := c
    refine ⟨i, a, b, hc, ?_⟩
    split at q
    · rename_i hi
      have hi : i = .imul := hi
      subst hi
      exact Or.inl ⟨rfl, rfl⟩
    · rename_i hi
      have hi : i = .idiv := hi
      subst hi
      exact Or.inr (Or.inl ⟨rfl, rfl⟩)
    · rename_i hi
      have hi : i = .irem := hi
      subst hi
      exact Or.inr (Or.inr ⟨rfl, rfl⟩)
    · cases q
  · cases q
theorem ah_step {L : Nat} {xs : Nat → Int32} {d y pc a b : Nat} {i : Instr} {lw : am_L} {X Y R : Int32} {sw : List Value} {r : List am_Fr} {h : List am_E} {x : Option Value × List am_E} (hc : am_code y pc = some (i, a, b)) (hi : (i = .imul ∧ R = X * Y) ∨ (i = .idiv ∧ Y ≠ 0 ∧ R = X / Y) ∨ (i = .irem ∧ Y ≠ 0 ∧ R = X - X / Y * Y)) (g : am_fn L xs (d, y, pc + 1, lw, .int R :: sw) r h x) : am_fn L xs (d, y, pc, lw, .int Y :: .int X :: sw) r h x := by
  rcases hi with ⟨rfl, rfl⟩ | ⟨rfl, hY, rfl⟩ | ⟨rfl, hY, rfl⟩
  · exact am_fn1 (z := (pc + 1, lw, .int (X * Y) :: sw, none)) hc rfl rfl rfl rfl g
  · exact am_fn1 (z := (pc + 1, lw, .int (X / Y) :: sw, none)) hc rfl rfl (by show am_if (decide (¬ Y = 0)) _ = _; rw [show decide (¬ Y = 0) = true from decide_eq_true hY]; rfl) rfl g
  · exact am_fn1 (z := (pc + 1, lw, .int (X - X / Y * Y) :: sw, none)) hc rfl rfl (by show am_if (decide (¬ Y = 0)) _ = _; rw [show decide (¬ Y = 0) = true from decide_eq_true hY]; rfl) rfl g
noncomputable def ah_sy (f : ap_F) (s : List ae_V) (r : List ap_F) (n : Nat) : ap_T := ((f.1, f.2.1, f.2.2.1 + 1, f.2.2.2.1, (0, 0, ae_sym n) :: s) :: r, none)
noncomputable def ah_lo (f : ap_F) : Int := bif Nat.beq (ah_kd f) 1 then 0 else 1
noncomputable def ah_hb (f : ap_F) (a b : Int) : Int := bif Nat.beq (ah_kd f) 1 then a * b else bif Nat.beq (ah_kd f) 2 then a else b - 1
noncomputable def ah_op (z : ab_St) : Option (List ab_St) := match z.t1.1 with
  | f1 :: r1 => (match z.t2.1 with
    | f2 :: r2 => (match f1.2.2.2.2 with
      | y1 :: x1 :: s1 => (match f2.2.2.2.2 with
        | y2 :: x2 :: s2 => bif Nat.beq (ah_kd f2) (ah_kd f1) && Nat.blt 0 (ah_kd f1) && Nat.blt 0 (ah_kd f2) && Nat.beq x1.1 0 && Nat.beq y1.1 0 && Nat.beq x2.1 0 && Nat.beq y2.1 0 && ae_rg z.k (ae_sub x1.2.2 x2.2.2) 0 0 && ae_rg z.k (ae_sub y1.2.2 y2.2.2) 0 0 && ae_z z.k (ae_neg x1.2.2 0) && ae_z z.k (ae_neg y1.2.2 (ah_lo f1)) then
            (ae_hi z.k x1.2.2).bind fun a => (ae_hi z.k y1.2.2).bind fun b => bif ae_le (ah_hb f1 a b) 2147483647 then some [(ae_new z.k 0 (ah_hb f1 a b), z.m, z.o, z.w, z.T, ah_sy f1 s1 r1 z.k.1, ah_sy f2 s2 r2 z.k.1)] else none
          else none
        | _ => none)
      | _ => none)
    | [] => none)
  | [] => none
section AHO
variable {G : List am_E → Prop} {L : Nat} {xs : Nat → Int32} {Q : Option Value → Option Value → List am_E → List am_E → Prop} {mo : ae_Mo} {ρ : Nat → Int} {g1 g2 : ap_cT} {h1 h2 : List am_E}
theorem ah_sy_ok {n m : Nat} {ρ' : Nat → Int} {f : ap_F} {y x : ae_V} {s : List ae_V} {r : List ap_F} {t : ap_T} {g : ap_cT} (ht : t.1 = f :: r) (hs : f.2.2.2.2 = y :: x :: s) (hx : Nat.beq x.1 0 = true) (hy : Nat.beq y.1 0 = true) (F : ap_tt n ρ t g) (hn : n ≤ m) (ag : ae_ag n ρ ρ') : ∃ (X Y : Int32) (i : Instr) (d yy pc : Nat) (lw : am_L) (sw : List Value) (gs : List am_Fr), g.1 = (d, yy, pc, lw, .int Y :: .int X :: sw) :: gs ∧ f.2.1 = yy ∧ f.2.2.1 = pc ∧ X.toInt = ae_ev ρ x.2.2 ∧ Y.toInt = ae_ev ρ y.2.2 ∧ ae_wt n x.2.2.2 ∧ ae_wt n y.2.2.2 ∧ ∀ (k : Nat) (R : Int32), k < m → ρ' k = R.toInt → ap_tt m ρ' (ah_sy f s r k) ((d, yy, pc + 1, lw, .int R :: sw) :: gs, none) := by
  obtain ⟨gf, gv⟩ := g
  have F1 := F.1
  rw [ht] at F1
  cases gf with
  | nil => exact absurd F1 id
  | cons c cs =>
    obtain ⟨d, yy, pc, lw, sw⟩ := c
    obtain ⟨⟨q1, q2, q3, q4, q5⟩, q6⟩ := F1
    have q1 : f.1 ≤ d := q1
    have q2 : f.2.1 = yy := q2
    have q3 : f.2.2.1 = pc := q3
    have q5 : ae_sr n ρ f.2.2.2.2 sw := q5
    rw [hs] at q5
    match sw, q5 with
    | [], q5 => exact absurd q5 id
    | [_], q5 => exact absurd q5.2 id
    | vy :: vx :: sw, ⟨oy, ox, os⟩ =>
      obtain ⟨Y, rfl, dy⟩ := ae_ok0 oy hy
      obtain ⟨X, rfl, dx⟩ := ae_ok0 ox hx
      refine ⟨X, Y, .nop, d, yy, pc, lw, sw, cs, rfl, q2, q3, dx.2.symm, dy.2.symm, dx.1, dy.1, fun k R hk hR => ⟨⟨⟨q1, q2, by show f.2.2.1 + 1 = pc + 1; rw [q3], ae_lr_ext hn ag q4, ⟨R, rfl, ⟨hk, trivial⟩, ?_⟩, ae_sr_ext hn ag os⟩, ap_ff_ext hn ag q6⟩, fun e => by cases e⟩⟩
      show (0 : Int) + (1 * ρ' k + 0) = R.toInt
      rw [hR]; omega
theorem ah_op_ok {z : ab_St} {o : List ab_St} (q : ah_op z = some o) (S : ab_sat G L xs ρ z g1 g2 h1 h2) : ∃ z' ∈ o, ∃ ρ' g1' g2' h1' h2', ae_up2 ρ z.k ρ' z'.k ∧ ab_sat G L xs ρ' z' g1' g2' h1' h2' ∧ (ap_end mo L xs Q g1' g2' h1' h2' → ap_end mo L xs Q g1 g2 h1 h2) := by
  obtain ⟨S1, S2, S4, S5, S6, S7, S8, S9, h0, r1', r2', r3'⟩ := S
  unfold ah_op at q
  split at q <;> try (cases q; done)
  rename_i f1 r1 ht1
  split at q <;> try (cases q; done)
  rename_i f2 r2 ht2
  split at q <;> try (cases q; done)
  rename_i y1 x1 s1 hs1
  split at q <;> try (cases q; done)
  rename_i y2 x2 s2 hs2
  obtain ⟨hb, q⟩ := ae_bif q
  simp only [Bool.and_eq_true] at hb
  obtain ⟨⟨⟨⟨⟨⟨⟨⟨⟨⟨b1, b2⟩, b3⟩, b4⟩, b5⟩, b6⟩, b7⟩, b8⟩, b9⟩, b10⟩, b11⟩ := hb
  obtain ⟨a, ha, q⟩ := Option.bind_eq_some_iff.mp q
  obtain ⟨b, hb, q⟩ := Option.bind_eq_some_iff.mp q
  obtain ⟨hle, q⟩ := ae_bif q
  cases q
  have hle := ae_le_iff.mp hle
  obtain ⟨i1, a1, c1, hc1, hi1⟩ := ah_kd_ok b2
  obtain ⟨i2, a2, c2, hc2, hi2⟩ := ah_kd_ok b3
  have ek := Nat.eq_of_beq_eq_true b1
  have r8 := ae_rg_ok S1 b8
  have r9 := ae_rg_ok S1 b9
  have r10 := ae_z_ok S1 b10
  have r11 := ae_z_ok S1 b11
  rw [ae_sub_ev] at r8 r9
  rw [ae_neg_ev] at r10 r11
  have hX := ae_hi_ok S1 ha
  have hY := ae_hi_ok S1 hb
  obtain ⟨X1, Y1, -, d1, yy1, pc1, lw1, sw1, gs1, e1, p1, p2, vx1, vy1, -, -, t1⟩ := ah_sy_ok (m := z.k.1 + 1) ht1 hs1 b4 b5 S5 (Nat.le_succ _) (ae_up_ag ρ z.k.1 0)
  obtain ⟨X2, Y2, -, d2, yy2, pc2, lw2, sw2, gs2, e2, p3, p4, vx2, vy2, -, -, t2⟩ := ah_sy_ok (m := z.k.1 + 1) ht2 hs2 b6 b7 S6 (Nat.le_succ _) (ae_up_ag ρ z.k.1 0)
  have eX : X2 = X1 := Int32.toInt_inj.mp (by omega)
  have eY : Y2 = Y1 := Int32.toInt_inj.mp (by omega)
  subst eX; subst eY
  have y0 : 0 ≤ Y2.toInt := by
    have : 0 ≤ ah_lo f1 := by
      unfold ah_lo
      cases Nat.beq (ah_kd f1) 1 <;> decide
    omega
  -- the number
  have y1 : ah_kd f1 ≠ 1 → 1 ≤ Y2.toInt := fun n => by
    have : ah_lo f1 = 1 := by
      unfold ah_lo
      cases hk : Nat.beq (ah_kd f1) 1 with
      | true => exact absurd (Nat.eq_of_beq_eq_true hk) n
      | false => rfl
    omega
  have nY : 1 ≤ Y2.toInt → Y2 ≠ 0 := fun h e => by
    have : Y2.toInt = 0 := by rw [e]; rfl
    omega
  obtain ⟨R, hR1, hR2, k1, k2⟩ : ∃ R : Int32, ((i1 = .imul ∧ R = X2 * Y2) ∨ (i1 = .idiv ∧ Y2 ≠ 0 ∧ R = X2 / Y2) ∨ (i1 = .irem ∧ Y2 ≠ 0 ∧ R = X2 - X2 / Y2 * Y2)) ∧ ((i2 = .imul ∧ R = X2 * Y2) ∨ (i2 = .idiv ∧ Y2 ≠ 0 ∧ R = X2 / Y2) ∨ (i2 = .irem ∧ Y2 ≠ 0 ∧ R = X2 - X2 / Y2 * Y2)) ∧ 0 ≤ R.toInt ∧ R.toInt ≤ ah_hb f1 a b := by
    rcases hi1 with ⟨h1, n1⟩ | ⟨h1, n1⟩ | ⟨h1, n1⟩
    · rcases hi2 with ⟨h2, n2⟩ | ⟨h2, n2⟩ | ⟨h2, n2⟩
      · have hbv : ah_hb f1 a b = a * b := by unfold ah_hb; rw [n1]; rfl
        have m1 : X2.toInt * Y2.toInt ≤ a * b := Int.mul_le_mul (by omega) (by omega) (by omega) (by omega)
        have m0 : 0 ≤ X2.toInt * Y2.toInt := Int.mul_nonneg (by omega) (by omega)
        have ev : (X2 * Y2).toInt = X2.toInt * Y2.toInt := by rw [ae_w_mul, ae_w32_rg (by omega) (by omega)]
        exact ⟨X2 * Y2, Or.inl ⟨h1, rfl⟩, Or.inl ⟨h2, rfl⟩, by omega, by omega⟩
      · omega
      · omega
    · rcases hi2 with ⟨h2, n2⟩ | ⟨h2, n2⟩ | ⟨h2, n2⟩
      · omega
      · have hbv : ah_hb f1 a b = a := by unfold ah_hb; rw [n1]; rfl
        have y1 := y1 (by omega)
        obtain ⟨ev, -⟩ := dv_val (X := X2) (Y := Y2) (by omega) y1
        have h5 : 0 ≤ X2.toInt / Y2.toInt := Int.ediv_nonneg (by omega) (by omega)
        have h6 : X2.toInt / Y2.toInt ≤ X2.toInt := Int.ediv_le_self _ (by omega)
        exact ⟨X2 / Y2, Or.inr (Or.inl ⟨h1, nY y1, rfl⟩), Or.inr (Or.inl ⟨h2, nY y1, rfl⟩), by omega, by omega⟩
      · omega
    · rcases hi2 with ⟨h2, n2⟩ | ⟨h2, n2⟩ | ⟨h2, n2⟩
      · omega
      · omega
      · have hbv : ah_hb f1 a b = b - 1 := by unfold ah_hb; rw [n1]; rfl
        have y1 := y1 (by omega)
        obtain ⟨-, ev⟩ := dv_val (X := X2) (Y := Y2) (by omega) y1
        have h5 : 0 ≤ X2.toInt % Y2.toInt := Int.emod_nonneg _ (by omega)
        have h6 : X2.toInt % Y2.toInt < Y2.toInt := Int.emod_lt_of_pos _ (by omega)
        exact ⟨X2 - X2 / Y2 * Y2, Or.inr (Or.inr ⟨h1, nY y1, rfl⟩), Or.inr (Or.inr ⟨h2, nY y1, rfl⟩), by omega, by omega⟩
  have KN := ae_new_ok S1 k1 k2
  have up : ae_up2 ρ z.k (ae_up ρ z.k.1 R.toInt) (ae_new z.k 0 (ah_hb f1 a b)) := ⟨Nat.le_succ _, ae_up_ag ρ z.k.1 _, KN⟩
  obtain ⟨X3, Y3, -, d3, yy3, pc3, lw3, sw3, gs3, e3, -, -, vx3, vy3, -, -, t3⟩ := ah_sy_ok (m := z.k.1 + 1) ht1 hs1 b4 b5 S5 (Nat.le_succ _) (ae_up_ag ρ z.k.1 R.toInt)
  obtain ⟨X4, Y4, -, d4, yy4, pc4, lw4, sw4, gs4, e4, -, -, vx4, vy4, -, -, t4⟩ := ah_sy_ok (m := z.k.1 + 1) ht2 hs2 b6 b7 S6 (Nat.le_succ _) (ae_up_ag ρ z.k.1 R.toInt)
  rw [e1] at e3
  cases e3
  rw [e2] at e4
  cases e4
  obtain ⟨gf1, gv1⟩ := g1
  obtain ⟨gf2, gv2⟩ := g2
  have e1 : gf1 = _ := e1
  have e2 : gf2 = _ := e2
  subst e1; subst e2
  subst p1; subst p2; subst p3; subst p4
  refine ⟨_, List.mem_singleton.mpr rfl, _, _, _, h1, h2, up, ⟨KN, ae_k0_up S2 up, ae_hp_ext up.1 up.2.1 S4, t3 z.k.1 R (Nat.lt_succ_self _) (ae_up_at _ _ _), t4 z.k.1 R (Nat.lt_succ_self _) (ae_up_at _ _ _), S7, S8, S9, h0, r1', r2', fun m hm => ae_eo_ext up.1 up.2.1 (r3' m hm)⟩, fun fin => ?_⟩
  obtain ⟨u1, f1', u2, f2', y1', y2', y3', y4', y5', y6'⟩ := fin
  exact ⟨u1, f1', u2, f2', ah_step hc1 hR1 y1', ah_step hc2 hR2 y2', y3', y4', y5', y6'⟩
end AHO

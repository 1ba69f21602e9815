/-! The greatest common divisor -/
theorem ag_rem {x y : Int64} (hy : y.toInt ≠ 0) : (x - x / y * y).toInt.natAbs < y.toInt.natAbs := by
  have e1 : x / y = Int64.ofInt (x.toInt.tdiv y.toInt) := Int64.toInt_inj.mp (by rw [Int64.toInt_div, Int64.toInt_ofInt])
  have e2 : x - x / y * y = Int64.ofInt (x.toInt - x.toInt.tdiv y.toInt * y.toInt) := by
    rw [Int64.ofInt_sub, Int64.ofInt_mul, ← e1, Int64.ofInt_toInt, Int64.ofInt_toInt]
  have e3 : x.toInt - x.toInt.tdiv y.toInt * y.toInt = x.toInt.tmod y.toInt := by
    rw [Int.tmod_def, Int.mul_comm]
  have e4 : (x.toInt.tmod y.toInt).natAbs < y.toInt.natAbs := by
    rw [Int.natAbs_tmod]
    exact Nat.mod_lt _ (by omega)
  have h1 := ae_r64 y
  have e5 : (Int64.ofInt (x.toInt.tmod y.toInt)).toInt = x.toInt.tmod y.toInt := ae_w64_rg (by omega) (by omega)
  rw [e2, e3, e5]
  exact e4
section AGF
variable {L : Nat} {xs : Nat → Int32} {n d y pc a b : Nat} {lw : am_L} {sw : List Value} {h h' : List am_E} {r : Option Value × List am_E}
theorem ag_ll {m : Nat} {v : Int64} (hc : am_code y pc = some (.lload m, a, b)) (hl : am_lk lw m = some (.long v)) (hg : am_go L xs n d y (pc + 2) lw (.long v :: sw) h = some r) : am_go L xs (n + 1) d y pc lw sw h = some r :=
  am_st1 (z := (pc + 2, lw, .long v :: sw, none)) hc rfl rfl (by show (am_gl lw m).bind _ = _; unfold am_gl; rw [hl]; rfl) rfl hg
theorem ag_ll2 {m : Fin 4} {v : Int64} (hc : am_code y pc = some (.lload_n m, a, b)) (hl : am_lk lw m.val = some (.long v)) (hg : am_go L xs n d y (pc + 1) lw (.long v :: sw) h = some r) : am_go L xs (n + 1) d y pc lw sw h = some r :=
  am_st1 (z := (pc + 1, lw, .long v :: sw, none)) hc rfl rfl (by show (am_gl lw m.val).bind _ = _; unfold am_gl; rw [hl]; rfl) rfl hg
theorem ag_ls {m : Nat} {v : Int64} (hc : am_code y pc = some (.lstore m, a, b)) (hL : Nat.blt (m + 1) (am_inf y).2.2.1 = true) (hg : am_go L xs n d y (pc + 2) (am_put2 lw m (.long v)) sw h = some r) : am_go L xs (n + 1) d y pc lw (.long v :: sw) h = some r :=
  am_st1 (z := (pc + 2, am_put2 lw m (.long v), sw, none)) hc rfl rfl (by show am_if (Nat.blt (m + 1) (am_inf y).2.2.1) _ = _; rw [hL]; rfl) rfl hg
theorem ag_lc {m : Fin 2} (hc : am_code y pc = some (.lconst m, a, b)) (hg : am_go L xs n d y (pc + 1) lw (.long (Int64.ofNat m.val) :: sw) h = some r) : am_go L xs (n + 1) d y pc lw sw h = some r :=
  am_st1 (z := (pc + 1, lw, .long (Int64.ofNat m.val) :: sw, none)) hc rfl rfl rfl rfl hg
theorem ag_cmpl {v w : Int64} (hc : am_code y pc = some (.lcmp, a, b)) (hg : am_go L xs n d y (pc + 1) lw (.int (lg_cmp v w) :: sw) h = some r) : am_go L xs (n + 1) d y pc lw (.long w :: .long v :: sw) h = some r :=
  am_st1 (z := (pc + 1, lw, .int (lg_cmp v w) :: sw, none)) hc rfl rfl rfl rfl hg
theorem ag_eq1 {o : Int} {v : Int32} (hc : am_code y pc = some (.ifCond .eq o, a, b)) (hv : v = 0) (hg : am_go L xs n d y a lw sw h = some r) : am_go L xs (n + 1) d y pc lw (.int v :: sw) h = some r :=
  am_st1 (z := (a, lw, sw, none)) hc rfl rfl (by show some (bif decide (v = 0) then a else pc + 3, lw, sw, none) = _; rw [decide_eq_true hv]; rfl) rfl hg
theorem ag_eq0 {o : Int} {v : Int32} (hc : am_code y pc = some (.ifCond .eq o, a, b)) (hv : v ≠ 0) (hg : am_go L xs n d y (pc + 3) lw sw h = some r) : am_go L xs (n + 1) d y pc lw (.int v :: sw) h = some r :=
  am_st1 (z := (pc + 3, lw, sw, none)) hc rfl rfl (by show some (bif decide (v = 0) then a else pc + 3, lw, sw, none) = _; rw [decide_eq_false hv]; rfl) rfl hg
theorem ag_lrem {v w : Int64} (hc : am_code y pc = some (.lrem, a, b)) (hw : ¬ w = 0) (hg : am_go L xs n d y (pc + 1) lw (.long (v - v / w * w) :: sw) h = some r) : am_go L xs (n + 1) d y pc lw (.long w :: .long v :: sw) h = some r :=
  am_st1 (z := (pc + 1, lw, .long (v - v / w * w) :: sw, none)) hc rfl rfl (by show am_if (decide (¬ w = 0)) _ = _; rw [decide_eq_true hw]; rfl) rfl hg
theorem ag_ldiv {v w : Int64} (hc : am_code y pc = some (.ldiv, a, b)) (hw : ¬ w = 0) (hg : am_go L xs n d y (pc + 1) lw (.long (v / w) :: sw) h = some r) : am_go L xs (n + 1) d y pc lw (.long w :: .long v :: sw) h = some r :=
  am_st1 (z := (pc + 1, lw, .long (v / w) :: sw, none)) hc rfl rfl (by show am_if (decide (¬ w = 0)) _ = _; rw [decide_eq_true hw]; rfl) rfl hg
theorem ag_abs {v : Int64} {i : Instr} (hc : am_code y pc = some (i, 1003, b)) (hR : am_isR i = false) (hC : am_isC i = true) (hd : Nat.ble 1 d = true) (hcat : Nat.ble (am_cats (.long v :: sw)) 16 = true) (hg : am_go L xs n d y (pc + 3) lw (.long (if 0 < v then v else -v) :: sw) h = some r) : am_go L xs (n + 1) d y pc lw (.long v :: sw) h = some r :=
  am_st2 (z := (pc + 3, lw, .long (if 0 < v then v else -v) :: sw, none)) hc hR hC (by decide) hd hcat rfl rfl hg
theorem ag_putl {w p : Nat} {v : Int64} (hc : am_code y pc = some (.putfield w, a, b)) (hs : ae_shp h) (ho : ae_isO p a b = true) (hf : am_ty a b = .long) (hn : am_fin a b = false) : ∃ h', ae_wr L xs h h' p b (.long v) ∧ ∀ n r, am_go L xs n d y (pc + 3) lw sw h' = some r → am_go L xs (n + 1) d y pc lw (.long v :: .ref p :: sw) h = some r := by
  obtain ⟨i, fs, rfl, h2, h3, h4, h5, h6⟩ := ae_obj hs ho
  obtain ⟨g1, g2⟩ := ae_set_o (L := L) (xs := xs) hs h2 h3 h4 (.long v)
  refine ⟨_, g2, fun n r hg => am_st1 (z := (pc + 3, lw, sw, some (some i, .inr (a, fs.set b (.long v))))) hc rfl rfl ?_ g1 hg⟩
  show (am_ob h (i + 1) a).bind _ = _
  rw [h6]
  show am_if (Nat.blt b fs.length && am_fit a b (.long v) && (!(am_fin a b) || _)) _ = _
  have e1 : am_fit a b (.long v) = true := by
    unfold am_fit
    rw [hf]
    show (decide (Value.long v = Value.long v) && true) = true
    rw [decide_eq_true rfl]; rfl
  rw [Nat.blt_eq.mpr h4, e1, hn]; rfl
theorem ag_lk3 {i : Nat} {v : Value} : am_lk (am_put2 lw i v) i = some v := by
  show (bif Nat.beq i i then some v else _) = some v
  rw [Nat.beq_refl]; rfl
theorem ag_lk4 {i j : Nat} {v w : Value} (hj : j ≠ i) (hj2 : j ≠ i + 1) (hw : j + 1 = i → w.category = 1) (hl : am_lk lw j = some w) : am_lk (am_put2 lw i v) j = some w := by
  show (bif Nat.beq i j then some v else am_lk (lw.filter _) j) = some w
  have e : Nat.beq i j = false := by
    cases hb : Nat.beq i j with
    | true => exact absurd (Nat.eq_of_beq_eq_true hb).symm hj
    | false => rfl
  rw [e]
  refine ae_lk_fil ?_ hl
  show (!(j == i) && (!(j == i + 1) && !(j + 1 == i && w.category == 2))) = true
  rw [beq_false_of_ne hj, beq_false_of_ne hj2]
  by_cases h1 : j + 1 = i
  · rw [hw h1]; simp
  · rw [beq_false_of_ne h1]; rfl
theorem ae_wr_hk {p j : Nat} {v : Value} (hk : ae_hk false L xs h) (hw : ae_wr L xs h h' p j v) (hv : ae_io (ae_iv p j) v) (hf : (ae_fam.all fun f => !(Nat.beq f.1 p)) = true) : ae_hk false L xs h' := by
  refine ⟨hw.1, fun q i w hq hc => ?_, fun f hfm i hi => ?_⟩
  · by_cases e : q = p ∧ i = j
    · obtain ⟨rfl, rfl⟩ := e
      rw [hw.2.1] at hc
      cases hc
      exact Or.inl hv
    · rw [hw.2.2 q i e] at hc
      exact hk.2.1 q i w hq hc
  · rcases hk.2.2 f hfm i hi with g | g
    · refine Or.inl (ae_cl_eq (fun o _ => hw.2.2 _ _ (fun e => ?_)) g)
      have := List.all_eq_true.mp hf f hfm
      rw [e.1, Nat.beq_refl] at this
      cases this
    · cases g.1
end AGF
theorem ag_cmp0 {v : Int64} (hv : v ≠ 0) : lg_cmp v (Int64.ofNat 0) ≠ 0 := by
  unfold lg_cmp
  split
  · decide
  · rw [if_neg (show ¬ v = Int64.ofNat 0 from hv)]; decide
theorem agf_0 : am_code 203 0 = some (.lload_n 1, 0, 0) := rfl
theorem agf_1 : am_code 203 1 = some (.invokestatic 80, 1003, 0) := rfl
theorem agf_4 : am_code 203 4 = some (.lstore 5, 0, 0) := rfl
theorem agf_6 : am_code 203 6 = some (.lload_n 3, 0, 0) := rfl
theorem agf_7 : am_code 203 7 = some (.lstore 7, 0, 0) := rfl
theorem agf_9 : am_code 203 9 = some (.lload 7, 0, 0) := rfl
theorem agf_11 : am_code 203 11 = some (.lconst 0, 0, 0) := rfl
theorem agf_12 : am_code 203 12 = some (.lcmp, 0, 0) := rfl
theorem agf_13 : am_code 203 13 = some (.ifCond .eq 21, 34, 0) := rfl
theorem agf_16 : am_code 203 16 = some (.lload 5, 0, 0) := rfl
theorem agf_18 : am_code 203 18 = some (.lload 7, 0, 0) := rfl
theorem agf_20 : am_code 203 20 = some (.lrem, 0, 0) := rfl
theorem agf_21 : am_code 203 21 = some (.lstore 9, 0, 0) := rfl
theorem agf_23 : am_code 203 23 = some (.lload 7, 0, 0) := rfl
theorem agf_25 : am_code 203 25 = some (.lstore 5, 0, 0) := rfl
theorem agf_27 : am_code 203 27 = some (.lload 9, 0, 0) := rfl
theorem agf_29 : am_code 203 29 = some (.lstore 7, 0, 0) := rfl
theorem agf_31 : am_code 203 31 = some (.goto (-22), 9, 0) := rfl
theorem agf_34 : am_code 203 34 = some (.aload_n 0, 0, 0) := rfl
theorem agf_35 : am_code 203 35 = some (.lload_n 1, 0, 0) := rfl
theorem agf_36 : am_code 203 36 = some (.lload 5, 0, 0) := rfl
theorem agf_38 : am_code 203 38 = some (.ldiv, 0, 0) := rfl
theorem agf_39 : am_code 203 39 = some (.putfield 77, 12, 2) := rfl
theorem agf_42 : am_code 203 42 = some (.aload_n 0, 0, 0) := rfl
theorem agf_43 : am_code 203 43 = some (.lload_n 3, 0, 0) := rfl
theorem agf_44 : am_code 203 44 = some (.lload 5, 0, 0) := rfl
theorem agf_46 : am_code 203 46 = some (.ldiv, 0, 0) := rfl
theorem agf_47 : am_code 203 47 = some (.putfield 7, 12, 3) := rfl
theorem agf_50 : am_code 203 50 = some (.iconst 1, 0, 0) := rfl
theorem agf_51 : am_code 203 51 = some (.ireturn, 0, 0) := rfl
theorem ag_gcd {L : Nat} {xs : Nat → Int32} {d : Nat} {h : List am_E} {t b : Int64} : ∀ (m : Nat) (lw : am_L) (x v : Int64), v.toInt.natAbs < m → (x ≠ 0 ∨ v ≠ 0) → (am_lk lw 0 = some (.ref 219) ∧ am_lk lw 1 = some (.long t) ∧ am_lk lw 3 = some (.long b)) → am_lk lw 5 = some (.long x) → am_lk lw 7 = some (.long v) →
    ∃ lw2 x2, x2 ≠ 0 ∧ (am_lk lw2 0 = some (.ref 219) ∧ am_lk lw2 1 = some (.long t) ∧ am_lk lw2 3 = some (.long b)) ∧ am_lk lw2 5 = some (.long x2) ∧ ∀ n r, am_go L xs n d 203 34 lw2 [] h = some r → ∃ n', am_go L xs n' d 203 9 lw [] h = some r := by
  intro m
  induction m with
  | zero => intro _ _ _ hm; exact absurd hm (Nat.not_lt_zero _)
  | succ m ih =>
    intro lw x v hm hxv hC h5 h7
    by_cases hv : v = 0
    · refine ⟨lw, x, ?_, hC, h5, fun n r hr => ⟨n + 4, ?_⟩⟩
      · rcases hxv with g | g
        · exact g
        · exact absurd hv g
      · exact ag_ll agf_9 h7 (ag_lc agf_11 (ag_cmpl agf_12 (ag_eq1 agf_13 (by rw [hv]; decide) hr)))
    · have h8 : v.toInt ≠ 0 := fun e => hv (Int64.toInt_inj.mp (by rw [e]; rfl))
      have h9 := ag_rem (x := x) h8
      obtain ⟨lw2, x2, g1, g2, g3, g4⟩ := ih (am_put2 (am_put2 (am_put2 lw 9 (.long (x - x / v * v))) 5 (.long v)) 7 (.long (x - x / v * v))) v (x - x / v * v) (by omega) (Or.inl hv)
        ⟨ag_lk4 (by decide) (by decide) (fun e => absurd e (by decide)) (ag_lk4 (by decide) (by decide) (fun e => absurd e (by decide)) (ag_lk4 (by decide) (by decide) (fun e => absurd e (by decide)) hC.1)),
         ag_lk4 (by decide) (by decide) (fun e => absurd e (by decide)) (ag_lk4 (by decide) (by decide) (fun e => absurd e (by decide)) (ag_lk4 (by decide) (by decide) (fun e => absurd e (by decide)) hC.2.1)),
         ag_lk4 (by decide) (by decide) (fun e => absurd e (by decide)) (ag_lk4 (by decide) (by decide) (fun e => absurd e (by decide)) (ag_lk4 (by decide) (by decide) (fun e => absurd e (by decide)) hC.2.2))⟩
        (ag_lk4 (by decide) (by decide) (fun e => absurd e (by decide)) ag_lk3) ag_lk3
      refine ⟨lw2, x2, g1, g2, g3, fun n r hr => ?_⟩
      obtain ⟨n1, hn1⟩ := g4 n r hr
      have k7 : am_lk (am_put2 lw 9 (.long (x - x / v * v))) 7 = some (.long v) := ag_lk4 (by decide) (by decide) (fun e => absurd e (by decide)) h7
      have k9 : am_lk (am_put2 (am_put2 lw 9 (.long (x - x / v * v))) 5 (.long v)) 9 = some (.long (x - x / v * v)) := ag_lk4 (by decide) (by decide) (fun e => absurd e (by decide)) ag_lk3
      exact ⟨n1 + 13, ag_ll agf_9 h7 (ag_lc agf_11 (ag_cmpl agf_12 (ag_eq0 agf_13 (ag_cmp0 hv) (ag_ll agf_16 h5 (ag_ll agf_18 h7 (ag_lrem agf_20 hv (ag_ls agf_21 (by decide +kernel) (ag_ll agf_23 k7 (ag_ls agf_25 (by decide +kernel) (ag_ll agf_27 k9 (ag_ls agf_29 (by decide +kernel) (ag_go agf_31 hn1))))))))))))⟩
theorem ae_frc {L : Nat} {xs : Nat → Int32} {t b : Int64} {h : List am_E} {d : Nat} (hb : b ≠ 0) (hk : ae_hk false L xs h) (hd : 1 ≤ d) : ∃ n h', am_go L xs n d 203 0 (lv_args 0 [.ref 219, .long t, .long b]) [] h = some (some (.int 1), h') ∧ ae_hk false L xs h' ∧ ae_fr [(219, 2, 2), (219, 3, 3)] L xs h h' := by
  have c0 : am_lk (lv_args 0 [.ref 219, .long t, .long b]) 0 = some (.ref 219) := rfl
  have c1 : am_lk (lv_args 0 [.ref 219, .long t, .long b]) 1 = some (.long t) := rfl
  have c3 : am_lk (lv_args 0 [.ref 219, .long t, .long b]) 3 = some (.long b) := rfl
  obtain ⟨lw2, x2, g1, g2, g3, g4⟩ := ag_gcd (L := L) (xs := xs) (d := d) (h := h) (t := t) (b := b) (b.toInt.natAbs + 1) (am_put2 (am_put2 (lv_args 0 [.ref 219, .long t, .long b]) 5 (.long (if 0 < t then t else -t))) 7 (.long b)) (if 0 < t then t else -t) b (Nat.lt_succ_self _) (Or.inr hb)
    ⟨ag_lk4 (by decide) (by decide) (fun e => absurd e (by decide)) (ag_lk4 (by decide) (by decide) (fun e => absurd e (by decide)) c0),
     ag_lk4 (by decide) (by decide) (fun e => absurd e (by decide)) (ag_lk4 (by decide) (by decide) (fun e => absurd e (by decide)) c1),
     ag_lk4 (by decide) (by decide) (fun e => absurd e (by decide)) (ag_lk4 (by decide) (by decide) (fun e => absurd e (by decide)) c3)⟩
    (ag_lk4 (by decide) (by decide) (fun e => absurd e (by decide)) ag_lk3) ag_lk3
  have hO1 : ae_isO 219 12 2 = true := by decide +kernel
  have hO2 : ae_isO 219 12 3 = true := by decide +kernel
  have hF : (ae_fam.all fun f => !(Nat.beq f.1 219)) = true := by decide +kernel
  obtain ⟨h1, w1, s1⟩ := ag_putl (L := L) (xs := xs) (d := d) (lw := lw2) (sw := []) (v := t / x2) agf_39 hk.1 hO1 (by decide +kernel) (by decide +kernel)
  have k1 := ae_wr_hk hk w1 (by rw [show ae_iv 219 2 = (1, -9223372036854775808, 9223372036854775807) by decide +kernel]; exact ⟨_, rfl, (ae_r64 _).1, (ae_r64 _).2⟩) hF
  obtain ⟨h2, w2, s2⟩ := ag_putl (L := L) (xs := xs) (d := d) (lw := lw2) (sw := []) (v := b / x2) agf_47 k1.1 hO2 (by decide +kernel) (by decide +kernel)
  have k2 := ae_wr_hk k1 w2 (by rw [show ae_iv 219 3 = (1, -9223372036854775808, 9223372036854775807) by decide +kernel]; exact ⟨_, rfl, (ae_r64 _).1, (ae_r64 _).2⟩) hF
  have e2 : am_go L xs 2 d 203 50 lw2 [] h2 = some (some (.int 1), h2) := ag_ic (v := 1) agf_50 rfl (am_st0 agf_51 rfl (by rw [show (am_inf 203).2.2.2 = 2 by decide +kernel]; rfl))
  have e1 : am_go L xs 12 d 203 34 lw2 [] h = some (some (.int 1), h2) :=
    ag_al agf_34 g2.1 (ag_ll2 agf_35 g2.2.1 (ag_ll agf_36 g3 (ag_ldiv agf_38 g1 (s1 _ _ (ag_al agf_42 g2.1 (ag_ll2 agf_43 g2.2.2 (ag_ll agf_44 g3 (ag_ldiv agf_46 g1 (s2 _ _ e2)))))))))
  obtain ⟨n1, hn1⟩ := g4 _ _ e1
  refine ⟨n1 + 5, h2, ag_ll2 agf_0 c1 (ag_abs agf_1 rfl rfl (Nat.ble_eq_true_of_le hd) rfl (ag_ls agf_4 (by decide +kernel) (ag_ll2 agf_6 (ag_lk4 (by decide) (by decide) (fun e => absurd e (by decide)) c3) (ag_ls agf_7 (by decide +kernel) hn1)))), k2, fun p j hpj => ?_⟩
  rw [w2.2.2 p j (fun e => by rw [e.1, e.2] at hpj; exact absurd hpj (by decide)), w1.2.2 p j (fun e => by rw [e.1, e.2] at hpj; exact absurd hpj (by decide))]
noncomputable def ae_frac1 : ae_Ct := (203, [(2, 219, 0, 0), (1, 0, -9223372036854775808, 9223372036854775807), (1, 0, 1, 9223372036854775807)], some (0, 1, 1), [(219, 2, 2), (219, 3, 3)], [], [[]], false, 1)
noncomputable def ae_frac2 : ae_Ct := (203, [(2, 219, 0, 0), (1, 0, -9223372036854775808, 9223372036854775807), (1, 0, -9223372036854775808, -1)], some (0, 1, 1), [(219, 2, 2), (219, 3, 3)], [], [[]], false, 1)
theorem ae_frx {L : Nat} {xs : Nat → Int32} {vs : List Value} {h : List am_E} {d : Nat} {lo hi : Int} (hlh : 1 ≤ lo ∨ hi ≤ -1) (hvs : ae_avs [(2, 219, 0, 0), (1, 0, -9223372036854775808, 9223372036854775807), (1, 0, lo, hi)] vs) (hk : ae_hk false L xs h) (hd : 1 ≤ d) : ∃ n r h', am_go L xs n d 203 0 (lv_args 0 vs) [] h = some (r, h') ∧ ae_hk false L xs h' ∧ ae_fr [(219, 2, 2), (219, 3, 3)] L xs h h' ∧ ae_rt (some (0, 1, 1)) r ∧ ∃ al ∈ [([] : ae_Al)], ae_ao L xs h h' [] al := by
  match vs, hvs with
  | [v0, v1, v2], hq =>
    obtain ⟨a0, a1, a2, -⟩ := hq
    have a0 : v0 = .ref 219 := a0
    obtain ⟨t, rfl, -⟩ := a1
    obtain ⟨b, rfl, b1, b2⟩ := a2
    subst a0
    have b1 : lo ≤ b.toInt := b1
    have b2 : b.toInt ≤ hi := b2
    have hb : b ≠ 0 := fun e => by
      have : b.toInt = 0 := by rw [e]; rfl
      omega
    obtain ⟨n, h', g1, g2, g3⟩ := ae_frc (t := t) hb hk hd
    exact ⟨n, _, h', g1, g2, g3, ⟨_, rfl, ⟨1, rfl, by decide, by decide⟩, by decide⟩, [], List.mem_singleton.mpr rfl, trivial⟩
theorem ae_fract1 : ae_CT ae_frac1 := fun L xs vs h d _ hvs hk hd => ae_frx (lo := 1) (hi := 9223372036854775807) (Or.inl (by decide)) hvs hk hd
theorem ae_fract2 : ae_CT ae_frac2 := fun L xs vs h d _ hvs hk hd => ae_frx (lo := -9223372036854775808) (hi := -1) (Or.inr (by decide)) hvs hk hd

/-! The law's loop, case by case: what is known of each pair of calls gives what is known of the whole -/
noncomputable def lw_L (lw : am_L) (i : Int32) : Prop := am_lk lw 0 = some (.ref 0) ∧ am_lk lw 1 = some (.ref 1) ∧ am_lk lw 2 = some (.ref 219) ∧ am_lk lw 3 = some (.int i)
noncomputable def lw_kd (k : Nat) (v : Value) : Prop := match k with
  | 0 => ∃ x : Int32, v = .int x
  | _ => ∃ x : Int64, v = .long x
/-- a call of the class and the same call of the reference: both end; what is known stays; compared, they answer alike -/
noncomputable def lw_PL (I : List am_E → Prop) (L : Nat) (xs : Nat → Int32) (S : List ae_Ag) (a1 a2 kd : Nat) (cmp : Bool) : Prop :=
  ∀ (h : List am_E) (vs : List Value) (d : Nat), 640 ≤ d → ae_avs S vs → I h → ∃ n1 v1 h1 n2 v2 h2, am_go L xs n1 d a1 0 (lv_args 0 (.ref 1 :: vs)) [] h = some (some v1, h1) ∧ ae_shp h1 ∧ am_go L xs n2 d a2 0 (lv_args 0 (.ref 219 :: vs)) [] h1 = some (some v2, h2) ∧ I h2 ∧ lw_kd kd v1 ∧ lw_kd kd v2 ∧ (cmp = true → v1 = v2)
section LWS
variable {L : Nat} {xs : Nat → Int32} {n d y pc a b : Nat} {lw : am_L} {sw : List Value} {h : List am_E} {r : Option Value × List am_E}
theorem lj_pop {v : Value} (hc : am_code y pc = some (.pop, a, b)) (hk : lw_kd 0 v) (hg : am_go L xs n d y (pc + 1) lw sw h = some r) : am_go L xs (n + 1) d y pc lw (v :: sw) h = some r := by
  obtain ⟨x, rfl⟩ := hk
  exact am_st1 (z := (pc + 1, lw, sw, none)) hc rfl rfl rfl rfl hg
theorem lj_pop2 {v : Value} (hc : am_code y pc = some (.pop2, a, b)) (hk : lw_kd 1 v) (hg : am_go L xs n d y (pc + 1) lw sw h = some r) : am_go L xs (n + 1) d y pc lw (v :: sw) h = some r := by
  obtain ⟨x, rfl⟩ := hk
  exact am_st1 (z := (pc + 1, lw, sw, none)) hc rfl rfl rfl rfl hg
theorem lj_i2l {v : Int32} (hc : am_code y pc = some (.i2l, a, b)) (hg : am_go L xs n d y (pc + 1) lw (.long v.toInt64 :: sw) h = some r) : am_go L xs (n + 1) d y pc lw (.int v :: sw) h = some r :=
  am_st1 (z := (pc + 1, lw, .long v.toInt64 :: sw, none)) hc rfl rfl rfl rfl hg
theorem lj_shl {v : Int32} {w : Int64} (hc : am_code y pc = some (.lshl, a, b)) (hg : am_go L xs n d y (pc + 1) lw (.long (w <<< (v.toInt64 &&& 63)) :: sw) h = some r) : am_go L xs (n + 1) d y pc lw (.int v :: .long w :: sw) h = some r :=
  am_st1 (z := (pc + 1, lw, .long (w <<< (v.toInt64 &&& 63)) :: sw, none)) hc rfl rfl rfl rfl hg
theorem lj_and {v w : Int64} (hc : am_code y pc = some (.land, a, b)) (hg : am_go L xs n d y (pc + 1) lw (.long (v &&& w) :: sw) h = some r) : am_go L xs (n + 1) d y pc lw (.long w :: .long v :: sw) h = some r :=
  am_st1 (z := (pc + 1, lw, .long (v &&& w) :: sw, none)) hc rfl rfl rfl rfl hg
theorem lj_or {v w : Int64} (hc : am_code y pc = some (.lor, a, b)) (hg : am_go L xs n d y (pc + 1) lw (.long (v ||| w) :: sw) h = some r) : am_go L xs (n + 1) d y pc lw (.long w :: .long v :: sw) h = some r :=
  am_st1 (z := (pc + 1, lw, .long (v ||| w) :: sw, none)) hc rfl rfl rfl rfl hg
theorem lj_ldc {w : Nat} {v : Int64} (hc : am_code y pc = some (.ldc2_w w, a, b)) (hv : (am_CL[a]?.map fun q => q.2.2.1) = some v) (hg : am_go L xs n d y (pc + 3) lw (.long v :: sw) h = some r) : am_go L xs (n + 1) d y pc lw sw h = some r := by
  obtain ⟨q, h1, h2⟩ := Option.map_eq_some_iff.mp hv
  exact am_st1 (z := (pc + 3, lw, .long v :: sw, none)) hc rfl rfl (by show (am_CL[a]?.bind _) = _; rw [h1, ← h2]; rfl) rfl hg
theorem lj_eq1 {o : Int} {v : Int32} (hc : am_code y pc = some (.ifCond .eq o, a, b)) (hv : v = 0) (hg : am_go L xs n d y a lw sw h = some r) : am_go L xs (n + 1) d y pc lw (.int v :: sw) h = some r := ag_eq1 hc hv hg
theorem lj_gt1 {o : Int} {v w : Int32} (hc : am_code y pc = some (.if_icmp .gt o, a, b)) (hv : w.toInt < v.toInt) (hg : am_go L xs n d y a lw sw h = some r) : am_go L xs (n + 1) d y pc lw (.int w :: .int v :: sw) h = some r :=
  am_st1 (z := (a, lw, sw, none)) hc rfl rfl (by show some (bif am_cm2 .gt v w then a else pc + 3, lw, sw, none) = _; rw [show am_cm2 .gt v w = true from decide_eq_true (Int32.lt_iff_toInt_lt.mpr hv)]; rfl) rfl hg
theorem lj_gt0 {o : Int} {v w : Int32} (hc : am_code y pc = some (.if_icmp .gt o, a, b)) (hv : v.toInt ≤ w.toInt) (hg : am_go L xs n d y (pc + 3) lw sw h = some r) : am_go L xs (n + 1) d y pc lw (.int w :: .int v :: sw) h = some r :=
  am_st1 (z := (pc + 3, lw, sw, none)) hc rfl rfl (by show some (bif am_cm2 .gt v w then a else pc + 3, lw, sw, none) = _; rw [show am_cm2 .gt v w = false from decide_eq_false (fun q => by have := Int32.lt_iff_toInt_lt.mp q; omega)]; rfl) rfl hg
/-- compared and alike -/
theorem lj_cmp {o : Int} {v w : Value} (hc : am_code y pc = some (.if_icmp .eq o, a, b)) (hk : lw_kd 0 v) (he : v = w) (hg : am_go L xs n d y a lw sw h = some r) : am_go L xs (n + 1) d y pc lw (w :: v :: sw) h = some r := by
  subst he
  obtain ⟨x, rfl⟩ := hk
  exact am_st1 (z := (a, lw, sw, none)) hc rfl rfl (by show some (bif am_cm2 .eq x x then a else pc + 3, lw, sw, none) = _; rw [show am_cm2 .eq x x = true from decide_eq_true rfl]; rfl) rfl hg
theorem lj_cmpl {o : Int} {v w : Value} {a' b' : Nat} (hc : am_code y pc = some (.lcmp, a, b)) (hc2 : am_code y (pc + 1) = some (.ifCond .eq o, a', b')) (hk : lw_kd 1 v) (he : v = w) (hg : am_go L xs n d y a' lw sw h = some r) : am_go L xs (n + 1 + 1) d y pc lw (w :: v :: sw) h = some r := by
  subst he
  obtain ⟨x, rfl⟩ := hk
  refine ag_cmpl hc (ag_eq1 hc2 ?_ hg)
  unfold lg_cmp
  rw [if_neg (fun q => by have := Int64.lt_iff_toInt_lt.mp q; omega), if_pos rfl]
/-- a number of the script -/
theorem lj_x {i : Int32} {I0 k : Nat} (kk : Int) {a0 b0 a1 b1 a2 b2 a3 b3 a4 b4 : Nat} (hl : lw_L lw i) (hi : i.toInt = (I0 : Int)) (hk : kk = (k : Int)) (hL : I0 + k < L) (hL2 : L ≤ 3072) (c0 : am_code y pc = some (.aload_n 0, a0, b0)) (c1 : am_code y (pc + 1) = some (.iload_n 3, a1, b1)) (c2 : am_code y (pc + 2) = some (.iconst kk, a2, b2)) (c3 : am_code y (pc + 3) = some (.iadd, a3, b3)) (c4 : am_code y (pc + 4) = some (.iaload, a4, b4))
    (hg : am_go L xs n d y (pc + 5) lw (.int (xs (I0 + k)) :: sw) h = some r) : am_go L xs (n + 5) d y pc lw sw h = some r := by
  refine ag_al c0 hl.1 (ag_il c1 hl.2.2.2 (ag_ic c2 rfl (ag_add c3 ?_)))
  have hx : (i + Int32.ofInt kk).toInt = ((I0 + k : Nat) : Int) := ag_wa hi (by rw [hk]; exact Int32.toInt_ofInt_of_le (by omega) (by omega)) (by omega) (by omega)
  refine am_st1 (z := (pc + 5, lw, .int (xs (I0 + k)) :: sw, none)) c4 rfl rfl ?_ rfl hg
  show am_if (am_in (i + Int32.ofInt kk) L) (some (pc + 4 + 1, lw, .int (xs (i + Int32.ofInt kk).toNatClampNeg) :: sw, none)) = _
  rw [ae_in_ok (by omega) (by omega), ag_ix hx]; rfl
theorem lj_call {w p : Nat} {vs : List Value} {n1 n2 : Nat} {v : Value} {h' : List am_E} (hc : am_code y pc = some (.invokevirtual w, a, b)) (hA : Nat.ble 1000 a = false) (hb : vs.length = b) (hs : ae_shp h) (ho : ae_isO p (am_inf a).1 0 = true) (hcat : Nat.ble (am_cats sw) 8 = true) (hnl : Nat.ble (am_cats (vs.reverse ++ [.ref p])) (am_inf a).2.2.1 = true)
    (g1 : am_go L xs n1 d a 0 (lv_args 0 (.ref p :: vs)) [] h = some (some v, h')) (g2 : am_go L xs n2 (d + 1) y (pc + 3) lw (v :: sw) h' = some r) : am_go L xs (n1 + n2 + 1) (d + 1) y pc lw (vs.reverse ++ .ref p :: sw) h = some r := by
  obtain ⟨i, fs, rfl, h2, h3, h4, h5, h6⟩ := ae_obj hs ho
  subst hb
  have et : (vs.reverse ++ Value.ref (i + 1) :: sw).take (vs.length + 1) = vs.reverse ++ [Value.ref (i + 1)] := by
    rw [List.take_append, List.length_reverse, List.take_of_length_le (by rw [List.length_reverse]; omega), show vs.length + 1 - vs.length = 1 by omega]; rfl
  have ed : (vs.reverse ++ Value.ref (i + 1) :: sw).drop (vs.length + 1) = sw := by
    rw [List.drop_append, List.length_reverse, List.drop_of_length_le (by rw [List.length_reverse]; omega), show vs.length + 1 - vs.length = 1 by omega]; rfl
  have er : (vs.reverse ++ [Value.ref (i + 1)]).reverse = Value.ref (i + 1) :: vs := by rw [List.reverse_append, List.reverse_reverse]; rfl
  refine am_st3 (n1 := n1) (n2 := n2) (r := some v) (h1 := h') hc rfl rfl hA ?_ ?_ ?_
  · show (Nat.ble (vs.length + 1) (vs.reverse ++ Value.ref (i + 1) :: sw).length && Nat.ble (am_cats ((vs.reverse ++ Value.ref (i + 1) :: sw).drop (vs.length + 1))) 8 && am_rcv (.invokevirtual w) a ((vs.reverse ++ Value.ref (i + 1) :: sw).take (vs.length + 1)).reverse h (am_inf a).1 && Nat.ble (am_cats ((vs.reverse ++ Value.ref (i + 1) :: sw).take (vs.length + 1))) (am_inf a).2.2.1) = true
    rw [et, ed, er, hcat, hnl, Nat.ble_eq_true_of_le (by rw [List.length_append, List.length_reverse, List.length_cons]; omega)]
    show (true && true && (am_ob h (i + 1) (am_inf a).1).isSome && true) = true
    rw [h6]; rfl
  · show am_go L xs n1 d a 0 (lv_args 0 ((vs.reverse ++ Value.ref (i + 1) :: sw).take (vs.length + 1)).reverse) [] h = _
    rw [et, er]; exact g1
  · show am_go L xs n2 (d + 1) y (pc + 3) lw ((some v).toList ++ (vs.reverse ++ Value.ref (i + 1) :: sw).drop (vs.length + 1)) h' = _
    rw [ed]; exact g2
end LWS
theorem lw_int (x : Int32) : ae_av (0, 0, (-2147483648), 2147483647) (.int x) := ⟨x, rfl, Int32.le_toInt x, by have := Int32.toInt_lt x; show x.toInt ≤ 2147483647; omega⟩
theorem lw_lng (x : Int64) : ae_av (1, 0, (-9223372036854775808), 9223372036854775807) (.long x) := ⟨x, rfl, Int64.le_toInt x, by have := Int64.toInt_lt x; show x.toInt ≤ 9223372036854775807; omega⟩

theorem lw_c0 {I : List am_E → Prop} {L : Nat} {xs : Nat → Int32} (hI : ∀ h, I h → ae_shp h) (P : lw_PL I L xs [] 136 197 0 false) {lw : am_L} {i : Int32} {I0 : Nat} (hl : lw_L lw i) (hi : i.toInt = (I0 : Int)) (hb : I0 + 6 ≤ L) (hL : L ≤ 3072) {h : List am_E} (hh : I h) : ∃ h2, I h2 ∧ ∀ n r, am_go L xs n 700 354 1819 lw [] h2 = some r → ∃ n2, am_go L xs n2 700 354 268 lw [] h = some r := by
  obtain ⟨n1, r1, h1, n2, r2, h2, g1, sh, g2, i2, k1, k2, e⟩ := P h [] 699 (by decide) trivial hh
  refine ⟨h2, i2, fun n r hr => ⟨n1 + (n2 + (n + 1 + 1) + 1 + 1 + 1) + 1 + 1, ?_⟩⟩
  refine ag_al (m := 1) (a := 0) (b := 0) rfl hl.2.1 ?_
  refine lj_call (p := 1) (vs := []) (w := 13) (a := 136) (b := 0) rfl (by decide) rfl (hI _ hh) (by decide +kernel) (by decide) (by show Nat.ble 1 _ = true; decide +kernel) g1 ?_
  refine lj_pop (a := 0) (b := 0) rfl k1 ?_
  refine ag_al (m := 2) (a := 0) (b := 0) rfl hl.2.2.1 ?_
  refine lj_call (p := 219) (vs := []) (w := 17) (a := 197) (b := 0) rfl (by decide) rfl sh (by decide +kernel) (by decide) (by show Nat.ble 1 _ = true; decide +kernel) g2 ?_
  refine lj_pop (a := 0) (b := 0) rfl k2 ?_
  exact ag_go (o := 1541) (a := 1819) (b := 0) rfl hr
theorem lw_c1 {I : List am_E → Prop} {L : Nat} {xs : Nat → Int32} (hI : ∀ h, I h → ae_shp h) (P : lw_PL I L xs [] 137 198 1 false) {lw : am_L} {i : Int32} {I0 : Nat} (hl : lw_L lw i) (hi : i.toInt = (I0 : Int)) (hb : I0 + 6 ≤ L) (hL : L ≤ 3072) {h : List am_E} (hh : I h) : ∃ h2, I h2 ∧ ∀ n r, am_go L xs n 700 354 1819 lw [] h2 = some r → ∃ n2, am_go L xs n2 700 354 281 lw [] h = some r := by
  obtain ⟨n1, r1, h1, n2, r2, h2, g1, sh, g2, i2, k1, k2, e⟩ := P h [] 699 (by decide) trivial hh
  refine ⟨h2, i2, fun n r hr => ⟨n1 + (n2 + (n + 1 + 1) + 1 + 1 + 1) + 1 + 1, ?_⟩⟩
  refine ag_al (m := 1) (a := 0) (b := 0) rfl hl.2.1 ?_
  refine lj_call (p := 1) (vs := []) (w := 18) (a := 137) (b := 0) rfl (by decide) rfl (hI _ hh) (by decide +kernel) (by decide) (by show Nat.ble 1 _ = true; decide +kernel) g1 ?_
  refine lj_pop2 (a := 0) (b := 0) rfl k1 ?_
  refine ag_al (m := 2) (a := 0) (b := 0) rfl hl.2.2.1 ?_
  refine lj_call (p := 219) (vs := []) (w := 22) (a := 198) (b := 0) rfl (by decide) rfl sh (by decide +kernel) (by decide) (by show Nat.ble 1 _ = true; decide +kernel) g2 ?_
  refine lj_pop2 (a := 0) (b := 0) rfl k2 ?_
  exact ag_go (o := 1528) (a := 1819) (b := 0) rfl hr
theorem lw_c2 {I : List am_E → Prop} {L : Nat} {xs : Nat → Int32} (hI : ∀ h, I h → ae_shp h) (P : lw_PL I L xs [] 138 199 1 false) {lw : am_L} {i : Int32} {I0 : Nat} (hl : lw_L lw i) (hi : i.toInt = (I0 : Int)) (hb : I0 + 6 ≤ L) (hL : L ≤ 3072) {h : List am_E} (hh : I h) : ∃ h2, I h2 ∧ ∀ n r, am_go L xs n 700 354 1819 lw [] h2 = some r → ∃ n2, am_go L xs n2 700 354 294 lw [] h = some r := by
  obtain ⟨n1, r1, h1, n2, r2, h2, g1, sh, g2, i2, k1, k2, e⟩ := P h [] 699 (by decide) trivial hh
  refine ⟨h2, i2, fun n r hr => ⟨n1 + (n2 + (n + 1 + 1) + 1 + 1 + 1) + 1 + 1, ?_⟩⟩
  refine ag_al (m := 1) (a := 0) (b := 0) rfl hl.2.1 ?_
  refine lj_call (p := 1) (vs := []) (w := 23) (a := 138) (b := 0) rfl (by decide) rfl (hI _ hh) (by decide +kernel) (by decide) (by show Nat.ble 1 _ = true; decide +kernel) g1 ?_
  refine lj_pop2 (a := 0) (b := 0) rfl k1 ?_
  refine ag_al (m := 2) (a := 0) (b := 0) rfl hl.2.2.1 ?_
  refine lj_call (p := 219) (vs := []) (w := 26) (a := 199) (b := 0) rfl (by decide) rfl sh (by decide +kernel) (by decide) (by show Nat.ble 1 _ = true; decide +kernel) g2 ?_
  refine lj_pop2 (a := 0) (b := 0) rfl k2 ?_
  exact ag_go (o := 1515) (a := 1819) (b := 0) rfl hr
theorem lw_c3 {I : List am_E → Prop} {L : Nat} {xs : Nat → Int32} (hI : ∀ h, I h → ae_shp h) (P : lw_PL I L xs [(0, 0, (-2147483648), 2147483647), (0, 0, (-2147483648), 2147483647), (0, 0, (-2147483648), 2147483647)] 139 205 0 false) {lw : am_L} {i : Int32} {I0 : Nat} (hl : lw_L lw i) (hi : i.toInt = (I0 : Int)) (hb : I0 + 6 ≤ L) (hL : L ≤ 3072) {h : List am_E} (hh : I h) : ∃ h2, I h2 ∧ ∀ n r, am_go L xs n 700 354 1819 lw [] h2 = some r → ∃ n2, am_go L xs n2 700 354 307 lw [] h = some r := by
  obtain ⟨n1, r1, h1, n2, r2, h2, g1, sh, g2, i2, k1, k2, e⟩ := P h [.int (xs (I0 + 1)), .int (xs (I0 + 2)), .int (xs (I0 + 3))] 699 (by decide) ⟨lw_int _, ⟨lw_int _, ⟨lw_int _, trivial⟩⟩⟩ hh
  refine ⟨h2, i2, fun n r hr => ⟨n1 + (n2 + (n + 1 + 1) + 1 + 5 + 5 + 5 + 1 + 1) + 1 + 5 + 5 + 5 + 1, ?_⟩⟩
  refine ag_al (m := 1) (a := 0) (b := 0) rfl hl.2.1 ?_
  refine lj_x (k := 1) 1 (a0 := 0) (b0 := 0) (a1 := 0) (b1 := 0) (a2 := 0) (b2 := 0) (a3 := 0) (b3 := 0) (a4 := 0) (b4 := 0) hl hi rfl (by omega) hL rfl rfl rfl rfl rfl ?_
  refine lj_x (k := 2) 2 (a0 := 0) (b0 := 0) (a1 := 0) (b1 := 0) (a2 := 0) (b2 := 0) (a3 := 0) (b3 := 0) (a4 := 0) (b4 := 0) hl hi rfl (by omega) hL rfl rfl rfl rfl rfl ?_
  refine lj_x (k := 3) 3 (a0 := 0) (b0 := 0) (a1 := 0) (b1 := 0) (a2 := 0) (b2 := 0) (a3 := 0) (b3 := 0) (a4 := 0) (b4 := 0) hl hi rfl (by omega) hL rfl rfl rfl rfl rfl ?_
  refine lj_call (p := 1) (vs := [.int (xs (I0 + 1)), .int (xs (I0 + 2)), .int (xs (I0 + 3))]) (w := 27) (a := 139) (b := 3) rfl (by decide) rfl (hI _ hh) (by decide +kernel) (by decide) (by show Nat.ble 4 _ = true; decide +kernel) g1 ?_
  refine lj_pop (a := 0) (b := 0) rfl k1 ?_
  refine ag_al (m := 2) (a := 0) (b := 0) rfl hl.2.2.1 ?_
  refine lj_x (k := 1) 1 (a0 := 0) (b0 := 0) (a1 := 0) (b1 := 0) (a2 := 0) (b2 := 0) (a3 := 0) (b3 := 0) (a4 := 0) (b4 := 0) hl hi rfl (by omega) hL rfl rfl rfl rfl rfl ?_
  refine lj_x (k := 2) 2 (a0 := 0) (b0 := 0) (a1 := 0) (b1 := 0) (a2 := 0) (b2 := 0) (a3 := 0) (b3 := 0) (a4 := 0) (b4 := 0) hl hi rfl (by omega) hL rfl rfl rfl rfl rfl ?_
  refine lj_x (k := 3) 3 (a0 := 0) (b0 := 0) (a1 := 0) (b1 := 0) (a2 := 0) (b2 := 0) (a3 := 0) (b3 := 0) (a4 := 0) (b4 := 0) hl hi rfl (by omega) hL rfl rfl rfl rfl rfl ?_
  refine lj_call (p := 219) (vs := [.int (xs (I0 + 1)), .int (xs (I0 + 2)), .int (xs (I0 + 3))]) (w := 31) (a := 205) (b := 3) rfl (by decide) rfl sh (by decide +kernel) (by decide) (by show Nat.ble 4 _ = true; decide +kernel) g2 ?_
  refine lj_pop (a := 0) (b := 0) rfl k2 ?_
  exact ag_go (o := 1472) (a := 1819) (b := 0) rfl hr
theorem lw_c4 {I : List am_E → Prop} {L : Nat} {xs : Nat → Int32} (hI : ∀ h, I h → ae_shp h) (P : lw_PL I L xs [(0, 0, (-2147483648), 2147483647), (0, 0, (-2147483648), 2147483647), (1, 0, (-9223372036854775808), 9223372036854775807)] 141 208 0 false) {lw : am_L} {i : Int32} {I0 : Nat} (hl : lw_L lw i) (hi : i.toInt = (I0 : Int)) (hb : I0 + 6 ≤ L) (hL : L ≤ 3072) {h : List am_E} (hh : I h) : ∃ h2, I h2 ∧ ∀ n r, am_go L xs n 700 354 1819 lw [] h2 = some r → ∃ n2, am_go L xs n2 700 354 350 lw [] h = some r := by
  obtain ⟨n1, r1, h1, n2, r2, h2, g1, sh, g2, i2, k1, k2, e⟩ := P h [.int (xs (I0 + 1)), .int (xs (I0 + 2)), .long (((xs (I0 + 3)).toInt64 <<< ((32 : Int32).toInt64 &&& 63)) ||| ((xs (I0 + 4)).toInt64 &&& (4294967295 : Int64)))] 699 (by decide) ⟨lw_int _, ⟨lw_int _, ⟨lw_lng _, trivial⟩⟩⟩ hh
  refine ⟨h2, i2, fun n r hr => ⟨n1 + (n2 + (n + 1 + 1) + 1 + 1 + 1 + 1 + 1 + 5 + 1 + 1 + 1 + 5 + 5 + 5 + 1 + 1) + 1 + 1 + 1 + 1 + 1 + 5 + 1 + 1 + 1 + 5 + 5 + 5 + 1, ?_⟩⟩
  refine ag_al (m := 1) (a := 0) (b := 0) rfl hl.2.1 ?_
  refine lj_x (k := 1) 1 (a0 := 0) (b0 := 0) (a1 := 0) (b1 := 0) (a2 := 0) (b2 := 0) (a3 := 0) (b3 := 0) (a4 := 0) (b4 := 0) hl hi rfl (by omega) hL rfl rfl rfl rfl rfl ?_
  refine lj_x (k := 2) 2 (a0 := 0) (b0 := 0) (a1 := 0) (b1 := 0) (a2 := 0) (b2 := 0) (a3 := 0) (b3 := 0) (a4 := 0) (b4 := 0) hl hi rfl (by omega) hL rfl rfl rfl rfl rfl ?_
  refine lj_x (k := 3) 3 (a0 := 0) (b0 := 0) (a1 := 0) (b1 := 0) (a2 := 0) (b2 := 0) (a3 := 0) (b3 := 0) (a4 := 0) (b4 := 0) hl hi rfl (by omega) hL rfl rfl rfl rfl rfl ?_
  refine lj_i2l (a := 0) (b := 0) rfl ?_
  refine ag_bi (m := 32) (v := 32) (a := 0) (b := 0) rfl rfl ?_
  refine lj_shl (a := 0) (b := 0) rfl ?_
  refine lj_x (k := 4) 4 (a0 := 0) (b0 := 0) (a1 := 0) (b1 := 0) (a2 := 0) (b2 := 0) (a3 := 0) (b3 := 0) (a4 := 0) (b4 := 0) hl hi rfl (by omega) hL rfl rfl rfl rfl rfl ?_
  refine lj_i2l (a := 0) (b := 0) rfl ?_
  refine lj_ldc (w := 32) (v := (4294967295 : Int64)) (a := 16) (b := 0) rfl (by decide +kernel) ?_
  refine lj_and (a := 0) (b := 0) rfl ?_
  refine lj_or (a := 0) (b := 0) rfl ?_
  refine lj_call (p := 1) (vs := [.int (xs (I0 + 1)), .int (xs (I0 + 2)), .long (((xs (I0 + 3)).toInt64 <<< ((32 : Int32).toInt64 &&& 63)) ||| ((xs (I0 + 4)).toInt64 &&& (4294967295 : Int64)))]) (w := 34) (a := 141) (b := 3) rfl (by decide) rfl (hI _ hh) (by decide +kernel) (by decide) (by show Nat.ble 5 _ = true; decide +kernel) g1 ?_
  refine lj_pop (a := 0) (b := 0) rfl k1 ?_
  refine ag_al (m := 2) (a := 0) (b := 0) rfl hl.2.2.1 ?_
  refine lj_x (k := 1) 1 (a0 := 0) (b0 := 0) (a1 := 0) (b1 := 0) (a2 := 0) (b2 := 0) (a3 := 0) (b3 := 0) (a4 := 0) (b4 := 0) hl hi rfl (by omega) hL rfl rfl rfl rfl rfl ?_
  refine lj_x (k := 2) 2 (a0 := 0) (b0 := 0) (a1 := 0) (b1 := 0) (a2 := 0) (b2 := 0) (a3 := 0) (b3 := 0) (a4 := 0) (b4 := 0) hl hi rfl (by omega) hL rfl rfl rfl rfl rfl ?_
  refine lj_x (k := 3) 3 (a0 := 0) (b0 := 0) (a1 := 0) (b1 := 0) (a2 := 0) (b2 := 0) (a3 := 0) (b3 := 0) (a4 := 0) (b4 := 0) hl hi rfl (by omega) hL rfl rfl rfl rfl rfl ?_
  refine lj_i2l (a := 0) (b := 0) rfl ?_
  refine ag_bi (m := 32) (v := 32) (a := 0) (b := 0) rfl rfl ?_
  refine lj_shl (a := 0) (b := 0) rfl ?_
  refine lj_x (k := 4) 4 (a0 := 0) (b0 := 0) (a1 := 0) (b1 := 0) (a2 := 0) (b2 := 0) (a3 := 0) (b3 := 0) (a4 := 0) (b4 := 0) hl hi rfl (by omega) hL rfl rfl rfl rfl rfl ?_
  refine lj_i2l (a := 0) (b := 0) rfl ?_
  refine lj_ldc (w := 32) (v := (4294967295 : Int64)) (a := 16) (b := 0) rfl (by decide +kernel) ?_
  refine lj_and (a := 0) (b := 0) rfl ?_
  refine lj_or (a := 0) (b := 0) rfl ?_
  refine lj_call (p := 219) (vs := [.int (xs (I0 + 1)), .int (xs (I0 + 2)), .long (((xs (I0 + 3)).toInt64 <<< ((32 : Int32).toInt64 &&& 63)) ||| ((xs (I0 + 4)).toInt64 &&& (4294967295 : Int64)))]) (w := 38) (a := 208) (b := 3) rfl (by decide) rfl sh (by decide +kernel) (by decide) (by show Nat.ble 5 _ = true; decide +kernel) g2 ?_
  refine lj_pop (a := 0) (b := 0) rfl k2 ?_
  exact ag_go (o := 1399) (a := 1819) (b := 0) rfl hr
theorem lw_c5 {I : List am_E → Prop} {L : Nat} {xs : Nat → Int32} (hI : ∀ h, I h → ae_shp h) (P : lw_PL I L xs [(0, 0, (-2147483648), 2147483647), (0, 0, (-2147483648), 2147483647)] 142 209 1 false) {lw : am_L} {i : Int32} {I0 : Nat} (hl : lw_L lw i) (hi : i.toInt = (I0 : Int)) (hb : I0 + 6 ≤ L) (hL : L ≤ 3072) {h : List am_E} (hh : I h) : ∃ h2, I h2 ∧ ∀ n r, am_go L xs n 700 354 1819 lw [] h2 = some r → ∃ n2, am_go L xs n2 700 354 423 lw [] h = some r := by
  obtain ⟨n1, r1, h1, n2, r2, h2, g1, sh, g2, i2, k1, k2, e⟩ := P h [.int (xs (I0 + 1)), .int (xs (I0 + 2))] 699 (by decide) ⟨lw_int _, ⟨lw_int _, trivial⟩⟩ hh
  refine ⟨h2, i2, fun n r hr => ⟨n1 + (n2 + (n + 1 + 1) + 1 + 5 + 5 + 1 + 1) + 1 + 5 + 5 + 1, ?_⟩⟩
  refine ag_al (m := 1) (a := 0) (b := 0) rfl hl.2.1 ?_
  refine lj_x (k := 1) 1 (a0 := 0) (b0 := 0) (a1 := 0) (b1 := 0) (a2 := 0) (b2 := 0) (a3 := 0) (b3 := 0) (a4 := 0) (b4 := 0) hl hi rfl (by omega) hL rfl rfl rfl rfl rfl ?_
  refine lj_x (k := 2) 2 (a0 := 0) (b0 := 0) (a1 := 0) (b1 := 0) (a2 := 0) (b2 := 0) (a3 := 0) (b3 := 0) (a4 := 0) (b4 := 0) hl hi rfl (by omega) hL rfl rfl rfl rfl rfl ?_
  refine lj_call (p := 1) (vs := [.int (xs (I0 + 1)), .int (xs (I0 + 2))]) (w := 39) (a := 142) (b := 2) rfl (by decide) rfl (hI _ hh) (by decide +kernel) (by decide) (by show Nat.ble 3 _ = true; decide +kernel) g1 ?_
  refine lj_pop2 (a := 0) (b := 0) rfl k1 ?_
  refine ag_al (m := 2) (a := 0) (b := 0) rfl hl.2.2.1 ?_
  refine lj_x (k := 1) 1 (a0 := 0) (b0 := 0) (a1 := 0) (b1 := 0) (a2 := 0) (b2 := 0) (a3 := 0) (b3 := 0) (a4 := 0) (b4 := 0) hl hi rfl (by omega) hL rfl rfl rfl rfl rfl ?_
  refine lj_x (k := 2) 2 (a0 := 0) (b0 := 0) (a1 := 0) (b1 := 0) (a2 := 0) (b2 := 0) (a3 := 0) (b3 := 0) (a4 := 0) (b4 := 0) hl hi rfl (by omega) hL rfl rfl rfl rfl rfl ?_
  refine lj_call (p := 219) (vs := [.int (xs (I0 + 1)), .int (xs (I0 + 2))]) (w := 43) (a := 209) (b := 2) rfl (by decide) rfl sh (by decide +kernel) (by decide) (by show Nat.ble 3 _ = true; decide +kernel) g2 ?_
  refine lj_pop2 (a := 0) (b := 0) rfl k2 ?_
  exact ag_go (o := 1366) (a := 1819) (b := 0) rfl hr
theorem lw_c6 {I : List am_E → Prop} {L : Nat} {xs : Nat → Int32} (hI : ∀ h, I h → ae_shp h) (P : lw_PL I L xs [(0, 0, (-2147483648), 2147483647), (0, 0, (-2147483648), 2147483647), (0, 0, (-2147483648), 2147483647), (0, 0, (-2147483648), 2147483647), (0, 0, (-2147483648), 2147483647)] 143 210 0 false) {lw : am_L} {i : Int32} {I0 : Nat} (hl : lw_L lw i) (hi : i.toInt = (I0 : Int)) (hb : I0 + 6 ≤ L) (hL : L ≤ 3072) {h : List am_E} (hh : I h) : ∃ h2, I h2 ∧ ∀ n r, am_go L xs n 700 354 1819 lw [] h2 = some r → ∃ n2, am_go L xs n2 700 354 456 lw [] h = some r := by
  obtain ⟨n1, r1, h1, n2, r2, h2, g1, sh, g2, i2, k1, k2, e⟩ := P h [.int (xs (I0 + 1)), .int (xs (I0 + 2)), .int (xs (I0 + 3)), .int (xs (I0 + 4)), .int (xs (I0 + 5))] 699 (by decide) ⟨lw_int _, ⟨lw_int _, ⟨lw_int _, ⟨lw_int _, ⟨lw_int _, trivial⟩⟩⟩⟩⟩ hh
  refine ⟨h2, i2, fun n r hr => ⟨n1 + (n2 + (n + 1 + 1) + 1 + 5 + 5 + 5 + 5 + 5 + 1 + 1) + 1 + 5 + 5 + 5 + 5 + 5 + 1, ?_⟩⟩
  refine ag_al (m := 1) (a := 0) (b := 0) rfl hl.2.1 ?_
  refine lj_x (k := 1) 1 (a0 := 0) (b0 := 0) (a1 := 0) (b1 := 0) (a2 := 0) (b2 := 0) (a3 := 0) (b3 := 0) (a4 := 0) (b4 := 0) hl hi rfl (by omega) hL rfl rfl rfl rfl rfl ?_
  refine lj_x (k := 2) 2 (a0 := 0) (b0 := 0) (a1 := 0) (b1 := 0) (a2 := 0) (b2 := 0) (a3 := 0) (b3 := 0) (a4 := 0) (b4 := 0) hl hi rfl (by omega) hL rfl rfl rfl rfl rfl ?_
  refine lj_x (k := 3) 3 (a0 := 0) (b0 := 0) (a1 := 0) (b1 := 0) (a2 := 0) (b2 := 0) (a3 := 0) (b3 := 0) (a4 := 0) (b4 := 0) hl hi rfl (by omega) hL rfl rfl rfl rfl rfl ?_
  refine lj_x (k := 4) 4 (a0 := 0) (b0 := 0) (a1 := 0) (b1 := 0) (a2 := 0) (b2 := 0) (a3 := 0) (b3 := 0) (a4 := 0) (b4 := 0) hl hi rfl (by omega) hL rfl rfl rfl rfl rfl ?_
  refine lj_x (k := 5) 5 (a0 := 0) (b0 := 0) (a1 := 0) (b1 := 0) (a2 := 0) (b2 := 0) (a3 := 0) (b3 := 0) (a4 := 0) (b4 := 0) hl hi rfl (by omega) hL rfl rfl rfl rfl rfl ?_
  refine lj_call (p := 1) (vs := [.int (xs (I0 + 1)), .int (xs (I0 + 2)), .int (xs (I0 + 3)), .int (xs (I0 + 4)), .int (xs (I0 + 5))]) (w := 44) (a := 143) (b := 5) rfl (by decide) rfl (hI _ hh) (by decide +kernel) (by decide) (by show Nat.ble 6 _ = true; decide +kernel) g1 ?_
  refine lj_pop (a := 0) (b := 0) rfl k1 ?_
  refine ag_al (m := 2) (a := 0) (b := 0) rfl hl.2.2.1 ?_
  refine lj_x (k := 1) 1 (a0 := 0) (b0 := 0) (a1 := 0) (b1 := 0) (a2 := 0) (b2 := 0) (a3 := 0) (b3 := 0) (a4 := 0) (b4 := 0) hl hi rfl (by omega) hL rfl rfl rfl rfl rfl ?_
  refine lj_x (k := 2) 2 (a0 := 0) (b0 := 0) (a1 := 0) (b1 := 0) (a2 := 0) (b2 := 0) (a3 := 0) (b3 := 0) (a4 := 0) (b4 := 0) hl hi rfl (by omega) hL rfl rfl rfl rfl rfl ?_
  refine lj_x (k := 3) 3 (a0 := 0) (b0 := 0) (a1 := 0) (b1 := 0) (a2 := 0) (b2 := 0) (a3 := 0) (b3 := 0) (a4 := 0) (b4 := 0) hl hi rfl (by omega) hL rfl rfl rfl rfl rfl ?_
  refine lj_x (k := 4) 4 (a0 := 0) (b0 := 0) (a1 := 0) (b1 := 0) (a2 := 0) (b2 := 0) (a3 := 0) (b3 := 0) (a4 := 0) (b4 := 0) hl hi rfl (by omega) hL rfl rfl rfl rfl rfl ?_
  refine lj_x (k := 5) 5 (a0 := 0) (b0 := 0) (a1 := 0) (b1 := 0) (a2 := 0) (b2 := 0) (a3 := 0) (b3 := 0) (a4 := 0) (b4 := 0) hl hi rfl (by omega) hL rfl rfl rfl rfl rfl ?_
  refine lj_call (p := 219) (vs := [.int (xs (I0 + 1)), .int (xs (I0 + 2)), .int (xs (I0 + 3)), .int (xs (I0 + 4)), .int (xs (I0 + 5))]) (w := 48) (a := 210) (b := 5) rfl (by decide) rfl sh (by decide +kernel) (by decide) (by show Nat.ble 6 _ = true; decide +kernel) g2 ?_
  refine lj_pop (a := 0) (b := 0) rfl k2 ?_
  exact ag_go (o := 1303) (a := 1819) (b := 0) rfl hr
theorem lw_c7 {I : List am_E → Prop} {L : Nat} {xs : Nat → Int32} (hI : ∀ h, I h → ae_shp h) (P : lw_PL I L xs [(0, 0, (-2147483648), 2147483647), (0, 0, (-2147483648), 2147483647), (0, 0, (-2147483648), 2147483647), (0, 0, (-2147483648), 2147483647), (0, 0, (-2147483648), 2147483647)] 144 248 0 false) {lw : am_L} {i : Int32} {I0 : Nat} (hl : lw_L lw i) (hi : i.toInt = (I0 : Int)) (hb : I0 + 6 ≤ L) (hL : L ≤ 3072) {h : List am_E} (hh : I h) : ∃ h2, I h2 ∧ ∀ n r, am_go L xs n 700 354 1819 lw [] h2 = some r → ∃ n2, am_go L xs n2 700 354 519 lw [] h = some r := by
  obtain ⟨n1, r1, h1, n2, r2, h2, g1, sh, g2, i2, k1, k2, e⟩ := P h [.int (xs (I0 + 1)), .int (xs (I0 + 2)), .int (xs (I0 + 3)), .int (xs (I0 + 4)), .int (xs (I0 + 5))] 699 (by decide) ⟨lw_int _, ⟨lw_int _, ⟨lw_int _, ⟨lw_int _, ⟨lw_int _, trivial⟩⟩⟩⟩⟩ hh
  refine ⟨h2, i2, fun n r hr => ⟨n1 + (n2 + (n + 1 + 1) + 1 + 5 + 5 + 5 + 5 + 5 + 1 + 1) + 1 + 5 + 5 + 5 + 5 + 5 + 1, ?_⟩⟩
  refine ag_al (m := 1) (a := 0) (b := 0) rfl hl.2.1 ?_
  refine lj_x (k := 1) 1 (a0 := 0) (b0 := 0) (a1 := 0) (b1 := 0) (a2 := 0) (b2 := 0) (a3 := 0) (b3 := 0) (a4 := 0) (b4 := 0) hl hi rfl (by omega) hL rfl rfl rfl rfl rfl ?_
  refine lj_x (k := 2) 2 (a0 := 0) (b0 := 0) (a1 := 0) (b1 := 0) (a2 := 0) (b2 := 0) (a3 := 0) (b3 := 0) (a4 := 0) (b4 := 0) hl hi rfl (by omega) hL rfl rfl rfl rfl rfl ?_
  refine lj_x (k := 3) 3 (a0 := 0) (b0 := 0) (a1 := 0) (b1 := 0) (a2 := 0) (b2 := 0) (a3 := 0) (b3 := 0) (a4 := 0) (b4 := 0) hl hi rfl (by omega) hL rfl rfl rfl rfl rfl ?_
  refine lj_x (k := 4) 4 (a0 := 0) (b0 := 0) (a1 := 0) (b1 := 0) (a2 := 0) (b2 := 0) (a3 := 0) (b3 := 0) (a4 := 0) (b4 := 0) hl hi rfl (by omega) hL rfl rfl rfl rfl rfl ?_
  refine lj_x (k := 5) 5 (a0 := 0) (b0 := 0) (a1 := 0) (b1 := 0) (a2 := 0) (b2 := 0) (a3 := 0) (b3 := 0) (a4 := 0) (b4 := 0) hl hi rfl (by omega) hL rfl rfl rfl rfl rfl ?_
  refine lj_call (p := 1) (vs := [.int (xs (I0 + 1)), .int (xs (I0 + 2)), .int (xs (I0 + 3)), .int (xs (I0 + 4)), .int (xs (I0 + 5))]) (w := 49) (a := 144) (b := 5) rfl (by decide) rfl (hI _ hh) (by decide +kernel) (by decide) (by show Nat.ble 6 _ = true; decide +kernel) g1 ?_
  refine lj_pop (a := 0) (b := 0) rfl k1 ?_
  refine ag_al (m := 2) (a := 0) (b := 0) rfl hl.2.2.1 ?_
  refine lj_x (k := 1) 1 (a0 := 0) (b0 := 0) (a1 := 0) (b1 := 0) (a2 := 0) (b2 := 0) (a3 := 0) (b3 := 0) (a4 := 0) (b4 := 0) hl hi rfl (by omega) hL rfl rfl rfl rfl rfl ?_
  refine lj_x (k := 2) 2 (a0 := 0) (b0 := 0) (a1 := 0) (b1 := 0) (a2 := 0) (b2 := 0) (a3 := 0) (b3 := 0) (a4 := 0) (b4 := 0) hl hi rfl (by omega) hL rfl rfl rfl rfl rfl ?_
  refine lj_x (k := 3) 3 (a0 := 0) (b0 := 0) (a1 := 0) (b1 := 0) (a2 := 0) (b2 := 0) (a3 := 0) (b3 := 0) (a4 := 0) (b4 := 0) hl hi rfl (by omega) hL rfl rfl rfl rfl rfl ?_
  refine lj_x (k := 4) 4 (a0 := 0) (b0 := 0) (a1 := 0) (b1 := 0) (a2 := 0) (b2 := 0) (a3 := 0) (b3 := 0) (a4 := 0) (b4 := 0) hl hi rfl (by omega) hL rfl rfl rfl rfl rfl ?_
  refine lj_x (k := 5) 5 (a0 := 0) (b0 := 0) (a1 := 0) (b1 := 0) (a2 := 0) (b2 := 0) (a3 := 0) (b3 := 0) (a4 := 0) (b4 := 0) hl hi rfl (by omega) hL rfl rfl rfl rfl rfl ?_
  refine lj_call (p := 219) (vs := [.int (xs (I0 + 1)), .int (xs (I0 + 2)), .int (xs (I0 + 3)), .int (xs (I0 + 4)), .int (xs (I0 + 5))]) (w := 53) (a := 248) (b := 5) rfl (by decide) rfl sh (by decide +kernel) (by decide) (by show Nat.ble 6 _ = true; decide +kernel) g2 ?_
  refine lj_pop (a := 0) (b := 0) rfl k2 ?_
  exact ag_go (o := 1240) (a := 1819) (b := 0) rfl hr
theorem lw_c8 {I : List am_E → Prop} {L : Nat} {xs : Nat → Int32} (hI : ∀ h, I h → ae_shp h) (P : lw_PL I L xs [(0, 0, (-2147483648), 2147483647)] 145 261 0 false) {lw : am_L} {i : Int32} {I0 : Nat} (hl : lw_L lw i) (hi : i.toInt = (I0 : Int)) (hb : I0 + 6 ≤ L) (hL : L ≤ 3072) {h : List am_E} (hh : I h) : ∃ h2, I h2 ∧ ∀ n r, am_go L xs n 700 354 1819 lw [] h2 = some r → ∃ n2, am_go L xs n2 700 354 582 lw [] h = some r := by
  obtain ⟨n1, r1, h1, n2, r2, h2, g1, sh, g2, i2, k1, k2, e⟩ := P h [.int (xs (I0 + 1))] 699 (by decide) ⟨lw_int _, trivial⟩ hh
  refine ⟨h2, i2, fun n r hr => ⟨n1 + (n2 + (n + 1 + 1) + 1 + 5 + 1 + 1) + 1 + 5 + 1, ?_⟩⟩
  refine ag_al (m := 1) (a := 0) (b := 0) rfl hl.2.1 ?_
  refine lj_x (k := 1) 1 (a0 := 0) (b0 := 0) (a1 := 0) (b1 := 0) (a2 := 0) (b2 := 0) (a3 := 0) (b3 := 0) (a4 := 0) (b4 := 0) hl hi rfl (by omega) hL rfl rfl rfl rfl rfl ?_
  refine lj_call (p := 1) (vs := [.int (xs (I0 + 1))]) (w := 54) (a := 145) (b := 1) rfl (by decide) rfl (hI _ hh) (by decide +kernel) (by decide) (by show Nat.ble 2 _ = true; decide +kernel) g1 ?_
  refine lj_pop (a := 0) (b := 0) rfl k1 ?_
  refine ag_al (m := 2) (a := 0) (b := 0) rfl hl.2.2.1 ?_
  refine lj_x (k := 1) 1 (a0 := 0) (b0 := 0) (a1 := 0) (b1 := 0) (a2 := 0) (b2 := 0) (a3 := 0) (b3 := 0) (a4 := 0) (b4 := 0) hl hi rfl (by omega) hL rfl rfl rfl rfl rfl ?_
  refine lj_call (p := 219) (vs := [.int (xs (I0 + 1))]) (w := 58) (a := 261) (b := 1) rfl (by decide) rfl sh (by decide +kernel) (by decide) (by show Nat.ble 2 _ = true; decide +kernel) g2 ?_
  refine lj_pop (a := 0) (b := 0) rfl k2 ?_
  exact ag_go (o := 1217) (a := 1819) (b := 0) rfl hr
theorem lw_c9 {I : List am_E → Prop} {L : Nat} {xs : Nat → Int32} (hI : ∀ h, I h → ae_shp h) (P : lw_PL I L xs [(0, 0, (-2147483648), 2147483647)] 146 265 0 false) {lw : am_L} {i : Int32} {I0 : Nat} (hl : lw_L lw i) (hi : i.toInt = (I0 : Int)) (hb : I0 + 6 ≤ L) (hL : L ≤ 3072) {h : List am_E} (hh : I h) : ∃ h2, I h2 ∧ ∀ n r, am_go L xs n 700 354 1819 lw [] h2 = some r → ∃ n2, am_go L xs n2 700 354 605 lw [] h = some r := by
  obtain ⟨n1, r1, h1, n2, r2, h2, g1, sh, g2, i2, k1, k2, e⟩ := P h [.int (xs (I0 + 1))] 699 (by decide) ⟨lw_int _, trivial⟩ hh
  refine ⟨h2, i2, fun n r hr => ⟨n1 + (n2 + (n + 1 + 1) + 1 + 5 + 1 + 1) + 1 + 5 + 1, ?_⟩⟩
  refine ag_al (m := 1) (a := 0) (b := 0) rfl hl.2.1 ?_
  refine lj_x (k := 1) 1 (a0 := 0) (b0 := 0) (a1 := 0) (b1 := 0) (a2 := 0) (b2 := 0) (a3 := 0) (b3 := 0) (a4 := 0) (b4 := 0) hl hi rfl (by omega) hL rfl rfl rfl rfl rfl ?_
  refine lj_call (p := 1) (vs := [.int (xs (I0 + 1))]) (w := 59) (a := 146) (b := 1) rfl (by decide) rfl (hI _ hh) (by decide +kernel) (by decide) (by show Nat.ble 2 _ = true; decide +kernel) g1 ?_
  refine lj_pop (a := 0) (b := 0) rfl k1 ?_
  refine ag_al (m := 2) (a := 0) (b := 0) rfl hl.2.2.1 ?_
  refine lj_x (k := 1) 1 (a0 := 0) (b0 := 0) (a1 := 0) (b1 := 0) (a2 := 0) (b2 := 0) (a3 := 0) (b3 := 0) (a4 := 0) (b4 := 0) hl hi rfl (by omega) hL rfl rfl rfl rfl rfl ?_
  refine lj_call (p := 219) (vs := [.int (xs (I0 + 1))]) (w := 62) (a := 265) (b := 1) rfl (by decide) rfl sh (by decide +kernel) (by decide) (by show Nat.ble 2 _ = true; decide +kernel) g2 ?_
  refine lj_pop (a := 0) (b := 0) rfl k2 ?_
  exact ag_go (o := 1194) (a := 1819) (b := 0) rfl hr
theorem lw_c10 {I : List am_E → Prop} {L : Nat} {xs : Nat → Int32} (hI : ∀ h, I h → ae_shp h) (P : lw_PL I L xs [(0, 0, (-2147483648), 2147483647)] 147 252 0 false) {lw : am_L} {i : Int32} {I0 : Nat} (hl : lw_L lw i) (hi : i.toInt = (I0 : Int)) (hb : I0 + 6 ≤ L) (hL : L ≤ 3072) {h : List am_E} (hh : I h) : ∃ h2, I h2 ∧ ∀ n r, am_go L xs n 700 354 1819 lw [] h2 = some r → ∃ n2, am_go L xs n2 700 354 628 lw [] h = some r := by
  obtain ⟨n1, r1, h1, n2, r2, h2, g1, sh, g2, i2, k1, k2, e⟩ := P h [.int (xs (I0 + 1))] 699 (by decide) ⟨lw_int _, trivial⟩ hh
  refine ⟨h2, i2, fun n r hr => ⟨n1 + (n2 + (n + 1 + 1) + 1 + 5 + 1 + 1) + 1 + 5 + 1, ?_⟩⟩
  refine ag_al (m := 1) (a := 0) (b := 0) rfl hl.2.1 ?_
  refine lj_x (k := 1) 1 (a0 := 0) (b0 := 0) (a1 := 0) (b1 := 0) (a2 := 0) (b2 := 0) (a3 := 0) (b3 := 0) (a4 := 0) (b4 := 0) hl hi rfl (by omega) hL rfl rfl rfl rfl rfl ?_
  refine lj_call (p := 1) (vs := [.int (xs (I0 + 1))]) (w := 63) (a := 147) (b := 1) rfl (by decide) rfl (hI _ hh) (by decide +kernel) (by decide) (by show Nat.ble 2 _ = true; decide +kernel) g1 ?_
  refine lj_pop (a := 0) (b := 0) rfl k1 ?_
  refine ag_al (m := 2) (a := 0) (b := 0) rfl hl.2.2.1 ?_
  refine lj_x (k := 1) 1 (a0 := 0) (b0 := 0) (a1 := 0) (b1 := 0) (a2 := 0) (b2 := 0) (a3 := 0) (b3 := 0) (a4 := 0) (b4 := 0) hl hi rfl (by omega) hL rfl rfl rfl rfl rfl ?_
  refine lj_call (p := 219) (vs := [.int (xs (I0 + 1))]) (w := 66) (a := 252) (b := 1) rfl (by decide) rfl sh (by decide +kernel) (by decide) (by show Nat.ble 2 _ = true; decide +kernel) g2 ?_
  refine lj_pop (a := 0) (b := 0) rfl k2 ?_
  exact ag_go (o := 1171) (a := 1819) (b := 0) rfl hr
theorem lw_c11 {I : List am_E → Prop} {L : Nat} {xs : Nat → Int32} (hI : ∀ h, I h → ae_shp h) (P : lw_PL I L xs [(0, 0, (-2147483648), 2147483647)] 148 274 0 true) {lw : am_L} {i : Int32} {I0 : Nat} (hl : lw_L lw i) (hi : i.toInt = (I0 : Int)) (hb : I0 + 6 ≤ L) (hL : L ≤ 3072) {h : List am_E} (hh : I h) : ∃ h2, I h2 ∧ ∀ n r, am_go L xs n 700 354 1819 lw [] h2 = some r → ∃ n2, am_go L xs n2 700 354 651 lw [] h = some r := by
  obtain ⟨n1, r1, h1, n2, r2, h2, g1, sh, g2, i2, k1, k2, e⟩ := P h [.int (xs (I0 + 1))] 699 (by decide) ⟨lw_int _, trivial⟩ hh
  refine ⟨h2, i2, fun n r hr => ⟨n1 + (n2 + (n + 1) + 1 + 5 + 1) + 1 + 5 + 1, ?_⟩⟩
  refine ag_al (m := 1) (a := 0) (b := 0) rfl hl.2.1 ?_
  refine lj_x (k := 1) 1 (a0 := 0) (b0 := 0) (a1 := 0) (b1 := 0) (a2 := 0) (b2 := 0) (a3 := 0) (b3 := 0) (a4 := 0) (b4 := 0) hl hi rfl (by omega) hL rfl rfl rfl rfl rfl ?_
  refine lj_call (p := 1) (vs := [.int (xs (I0 + 1))]) (w := 67) (a := 148) (b := 1) rfl (by decide) rfl (hI _ hh) (by decide +kernel) (by decide) (by show Nat.ble 2 _ = true; decide +kernel) g1 ?_
  refine ag_al (m := 2) (a := 0) (b := 0) rfl hl.2.2.1 ?_
  refine lj_x (k := 1) 1 (a0 := 0) (b0 := 0) (a1 := 0) (b1 := 0) (a2 := 0) (b2 := 0) (a3 := 0) (b3 := 0) (a4 := 0) (b4 := 0) hl hi rfl (by omega) hL rfl rfl rfl rfl rfl ?_
  refine lj_call (p := 219) (vs := [.int (xs (I0 + 1))]) (w := 70) (a := 274) (b := 1) rfl (by decide) rfl sh (by decide +kernel) (by obtain ⟨x, rfl⟩ := k1; show Nat.ble 1 8 = true; decide) (by show Nat.ble 2 _ = true; decide +kernel) g2 ?_
  exact lj_cmp (o := 1150) (a := 1819) (b := 0) rfl k1 (e rfl) hr
theorem lw_c12 {I : List am_E → Prop} {L : Nat} {xs : Nat → Int32} (hI : ∀ h, I h → ae_shp h) (P : lw_PL I L xs [(0, 0, (-2147483648), 2147483647), (0, 0, (-2147483648), 2147483647)] 149 275 0 false) {lw : am_L} {i : Int32} {I0 : Nat} (hl : lw_L lw i) (hi : i.toInt = (I0 : Int)) (hb : I0 + 6 ≤ L) (hL : L ≤ 3072) {h : List am_E} (hh : I h) : ∃ h2, I h2 ∧ ∀ n r, am_go L xs n 700 354 1819 lw [] h2 = some r → ∃ n2, am_go L xs n2 700 354 674 lw [] h = some r := by
  obtain ⟨n1, r1, h1, n2, r2, h2, g1, sh, g2, i2, k1, k2, e⟩ := P h [.int (xs (I0 + 1)), .int (xs (I0 + 2))] 699 (by decide) ⟨lw_int _, ⟨lw_int _, trivial⟩⟩ hh
  refine ⟨h2, i2, fun n r hr => ⟨n1 + (n2 + (n + 1 + 1) + 1 + 5 + 5 + 1 + 1) + 1 + 5 + 5 + 1, ?_⟩⟩
  refine ag_al (m := 1) (a := 0) (b := 0) rfl hl.2.1 ?_
  refine lj_x (k := 1) 1 (a0 := 0) (b0 := 0) (a1 := 0) (b1 := 0) (a2 := 0) (b2 := 0) (a3 := 0) (b3 := 0) (a4 := 0) (b4 := 0) hl hi rfl (by omega) hL rfl rfl rfl rfl rfl ?_
  refine lj_x (k := 2) 2 (a0 := 0) (b0 := 0) (a1 := 0) (b1 := 0) (a2 := 0) (b2 := 0) (a3 := 0) (b3 := 0) (a4 := 0) (b4 := 0) hl hi rfl (by omega) hL rfl rfl rfl rfl rfl ?_
  refine lj_call (p := 1) (vs := [.int (xs (I0 + 1)), .int (xs (I0 + 2))]) (w := 71) (a := 149) (b := 2) rfl (by decide) rfl (hI _ hh) (by decide +kernel) (by decide) (by show Nat.ble 3 _ = true; decide +kernel) g1 ?_
  refine lj_pop (a := 0) (b := 0) rfl k1 ?_
  refine ag_al (m := 2) (a := 0) (b := 0) rfl hl.2.2.1 ?_
  refine lj_x (k := 1) 1 (a0 := 0) (b0 := 0) (a1 := 0) (b1 := 0) (a2 := 0) (b2 := 0) (a3 := 0) (b3 := 0) (a4 := 0) (b4 := 0) hl hi rfl (by omega) hL rfl rfl rfl rfl rfl ?_
  refine lj_x (k := 2) 2 (a0 := 0) (b0 := 0) (a1 := 0) (b1 := 0) (a2 := 0) (b2 := 0) (a3 := 0) (b3 := 0) (a4 := 0) (b4 := 0) hl hi rfl (by omega) hL rfl rfl rfl rfl rfl ?_
  refine lj_call (p := 219) (vs := [.int (xs (I0 + 1)), .int (xs (I0 + 2))]) (w := 75) (a := 275) (b := 2) rfl (by decide) rfl sh (by decide +kernel) (by decide) (by show Nat.ble 3 _ = true; decide +kernel) g2 ?_
  refine lj_pop (a := 0) (b := 0) rfl k2 ?_
  exact ag_go (o := 1115) (a := 1819) (b := 0) rfl hr
theorem lw_c13 {I : List am_E → Prop} {L : Nat} {xs : Nat → Int32} (hI : ∀ h, I h → ae_shp h) (P : lw_PL I L xs [(0, 0, (-2147483648), 2147483647), (0, 0, (-2147483648), 2147483647)] 150 276 0 false) {lw : am_L} {i : Int32} {I0 : Nat} (hl : lw_L lw i) (hi : i.toInt = (I0 : Int)) (hb : I0 + 6 ≤ L) (hL : L ≤ 3072) {h : List am_E} (hh : I h) : ∃ h2, I h2 ∧ ∀ n r, am_go L xs n 700 354 1819 lw [] h2 = some r → ∃ n2, am_go L xs n2 700 354 707 lw [] h = some r := by
  obtain ⟨n1, r1, h1, n2, r2, h2, g1, sh, g2, i2, k1, k2, e⟩ := P h [.int (xs (I0 + 1)), .int (xs (I0 + 2))] 699 (by decide) ⟨lw_int _, ⟨lw_int _, trivial⟩⟩ hh
  refine ⟨h2, i2, fun n r hr => ⟨n1 + (n2 + (n + 1 + 1) + 1 + 5 + 5 + 1 + 1) + 1 + 5 + 5 + 1, ?_⟩⟩
  refine ag_al (m := 1) (a := 0) (b := 0) rfl hl.2.1 ?_
  refine lj_x (k := 1) 1 (a0 := 0) (b0 := 0) (a1 := 0) (b1 := 0) (a2 := 0) (b2 := 0) (a3 := 0) (b3 := 0) (a4 := 0) (b4 := 0) hl hi rfl (by omega) hL rfl rfl rfl rfl rfl ?_
  refine lj_x (k := 2) 2 (a0 := 0) (b0 := 0) (a1 := 0) (b1 := 0) (a2 := 0) (b2 := 0) (a3 := 0) (b3 := 0) (a4 := 0) (b4 := 0) hl hi rfl (by omega) hL rfl rfl rfl rfl rfl ?_
  refine lj_call (p := 1) (vs := [.int (xs (I0 + 1)), .int (xs (I0 + 2))]) (w := 76) (a := 150) (b := 2) rfl (by decide) rfl (hI _ hh) (by decide +kernel) (by decide) (by show Nat.ble 3 _ = true; decide +kernel) g1 ?_
  refine lj_pop (a := 0) (b := 0) rfl k1 ?_
  refine ag_al (m := 2) (a := 0) (b := 0) rfl hl.2.2.1 ?_
  refine lj_x (k := 1) 1 (a0 := 0) (b0 := 0) (a1 := 0) (b1 := 0) (a2 := 0) (b2 := 0) (a3 := 0) (b3 := 0) (a4 := 0) (b4 := 0) hl hi rfl (by omega) hL rfl rfl rfl rfl rfl ?_
  refine lj_x (k := 2) 2 (a0 := 0) (b0 := 0) (a1 := 0) (b1 := 0) (a2 := 0) (b2 := 0) (a3 := 0) (b3 := 0) (a4 := 0) (b4 := 0) hl hi rfl (by omega) hL rfl rfl rfl rfl rfl ?_
  refine lj_call (p := 219) (vs := [.int (xs (I0 + 1)), .int (xs (I0 + 2))]) (w := 79) (a := 276) (b := 2) rfl (by decide) rfl sh (by decide +kernel) (by decide) (by show Nat.ble 3 _ = true; decide +kernel) g2 ?_
  refine lj_pop (a := 0) (b := 0) rfl k2 ?_
  exact ag_go (o := 1082) (a := 1819) (b := 0) rfl hr
theorem lw_c14 {I : List am_E → Prop} {L : Nat} {xs : Nat → Int32} (hI : ∀ h, I h → ae_shp h) (P : lw_PL I L xs [(0, 0, (-2147483648), 2147483647), (0, 0, (-2147483648), 2147483647)] 151 277 0 false) {lw : am_L} {i : Int32} {I0 : Nat} (hl : lw_L lw i) (hi : i.toInt = (I0 : Int)) (hb : I0 + 6 ≤ L) (hL : L ≤ 3072) {h : List am_E} (hh : I h) : ∃ h2, I h2 ∧ ∀ n r, am_go L xs n 700 354 1819 lw [] h2 = some r → ∃ n2, am_go L xs n2 700 354 740 lw [] h = some r := by
  obtain ⟨n1, r1, h1, n2, r2, h2, g1, sh, g2, i2, k1, k2, e⟩ := P h [.int (xs (I0 + 1)), .int (xs (I0 + 2))] 699 (by decide) ⟨lw_int _, ⟨lw_int _, trivial⟩⟩ hh
  refine ⟨h2, i2, fun n r hr => ⟨n1 + (n2 + (n + 1 + 1) + 1 + 5 + 5 + 1 + 1) + 1 + 5 + 5 + 1, ?_⟩⟩
  refine ag_al (m := 1) (a := 0) (b := 0) rfl hl.2.1 ?_
  refine lj_x (k := 1) 1 (a0 := 0) (b0 := 0) (a1 := 0) (b1 := 0) (a2 := 0) (b2 := 0) (a3 := 0) (b3 := 0) (a4 := 0) (b4 := 0) hl hi rfl (by omega) hL rfl rfl rfl rfl rfl ?_
  refine lj_x (k := 2) 2 (a0 := 0) (b0 := 0) (a1 := 0) (b1 := 0) (a2 := 0) (b2 := 0) (a3 := 0) (b3 := 0) (a4 := 0) (b4 := 0) hl hi rfl (by omega) hL rfl rfl rfl rfl rfl ?_
  refine lj_call (p := 1) (vs := [.int (xs (I0 + 1)), .int (xs (I0 + 2))]) (w := 80) (a := 151) (b := 2) rfl (by decide) rfl (hI _ hh) (by decide +kernel) (by decide) (by show Nat.ble 3 _ = true; decide +kernel) g1 ?_
  refine lj_pop (a := 0) (b := 0) rfl k1 ?_
  refine ag_al (m := 2) (a := 0) (b := 0) rfl hl.2.2.1 ?_
  refine lj_x (k := 1) 1 (a0 := 0) (b0 := 0) (a1 := 0) (b1 := 0) (a2 := 0) (b2 := 0) (a3 := 0) (b3 := 0) (a4 := 0) (b4 := 0) hl hi rfl (by omega) hL rfl rfl rfl rfl rfl ?_
  refine lj_x (k := 2) 2 (a0 := 0) (b0 := 0) (a1 := 0) (b1 := 0) (a2 := 0) (b2 := 0) (a3 := 0) (b3 := 0) (a4 := 0) (b4 := 0) hl hi rfl (by omega) hL rfl rfl rfl rfl rfl ?_
  refine lj_call (p := 219) (vs := [.int (xs (I0 + 1)), .int (xs (I0 + 2))]) (w := 83) (a := 277) (b := 2) rfl (by decide) rfl sh (by decide +kernel) (by decide) (by show Nat.ble 3 _ = true; decide +kernel) g2 ?_
  refine lj_pop (a := 0) (b := 0) rfl k2 ?_
  exact ag_go (o := 1049) (a := 1819) (b := 0) rfl hr
theorem lw_c15 {I : List am_E → Prop} {L : Nat} {xs : Nat → Int32} (hI : ∀ h, I h → ae_shp h) (P : lw_PL I L xs [(0, 0, (-2147483648), 2147483647), (0, 0, (-2147483648), 2147483647)] 152 278 0 false) {lw : am_L} {i : Int32} {I0 : Nat} (hl : lw_L lw i) (hi : i.toInt = (I0 : Int)) (hb : I0 + 6 ≤ L) (hL : L ≤ 3072) {h : List am_E} (hh : I h) : ∃ h2, I h2 ∧ ∀ n r, am_go L xs n 700 354 1819 lw [] h2 = some r → ∃ n2, am_go L xs n2 700 354 773 lw [] h = some r := by
  obtain ⟨n1, r1, h1, n2, r2, h2, g1, sh, g2, i2, k1, k2, e⟩ := P h [.int (xs (I0 + 1)), .int (xs (I0 + 2))] 699 (by decide) ⟨lw_int _, ⟨lw_int _, trivial⟩⟩ hh
  refine ⟨h2, i2, fun n r hr => ⟨n1 + (n2 + (n + 1 + 1) + 1 + 5 + 5 + 1 + 1) + 1 + 5 + 5 + 1, ?_⟩⟩
  refine ag_al (m := 1) (a := 0) (b := 0) rfl hl.2.1 ?_
  refine lj_x (k := 1) 1 (a0 := 0) (b0 := 0) (a1 := 0) (b1 := 0) (a2 := 0) (b2 := 0) (a3 := 0) (b3 := 0) (a4 := 0) (b4 := 0) hl hi rfl (by omega) hL rfl rfl rfl rfl rfl ?_
  refine lj_x (k := 2) 2 (a0 := 0) (b0 := 0) (a1 := 0) (b1 := 0) (a2 := 0) (b2 := 0) (a3 := 0) (b3 := 0) (a4 := 0) (b4 := 0) hl hi rfl (by omega) hL rfl rfl rfl rfl rfl ?_
  refine lj_call (p := 1) (vs := [.int (xs (I0 + 1)), .int (xs (I0 + 2))]) (w := 84) (a := 152) (b := 2) rfl (by decide) rfl (hI _ hh) (by decide +kernel) (by decide) (by show Nat.ble 3 _ = true; decide +kernel) g1 ?_
  refine lj_pop (a := 0) (b := 0) rfl k1 ?_
  refine ag_al (m := 2) (a := 0) (b := 0) rfl hl.2.2.1 ?_
  refine lj_x (k := 1) 1 (a0 := 0) (b0 := 0) (a1 := 0) (b1 := 0) (a2 := 0) (b2 := 0) (a3 := 0) (b3 := 0) (a4 := 0) (b4 := 0) hl hi rfl (by omega) hL rfl rfl rfl rfl rfl ?_
  refine lj_x (k := 2) 2 (a0 := 0) (b0 := 0) (a1 := 0) (b1 := 0) (a2 := 0) (b2 := 0) (a3 := 0) (b3 := 0) (a4 := 0) (b4 := 0) hl hi rfl (by omega) hL rfl rfl rfl rfl rfl ?_
  refine lj_call (p := 219) (vs := [.int (xs (I0 + 1)), .int (xs (I0 + 2))]) (w := 87) (a := 278) (b := 2) rfl (by decide) rfl sh (by decide +kernel) (by decide) (by show Nat.ble 3 _ = true; decide +kernel) g2 ?_
  refine lj_pop (a := 0) (b := 0) rfl k2 ?_
  exact ag_go (o := 1016) (a := 1819) (b := 0) rfl hr
theorem lw_c16 {I : List am_E → Prop} {L : Nat} {xs : Nat → Int32} (hI : ∀ h, I h → ae_shp h) (P : lw_PL I L xs [(0, 0, (-2147483648), 2147483647), (0, 0, (-2147483648), 2147483647)] 153 279 0 false) {lw : am_L} {i : Int32} {I0 : Nat} (hl : lw_L lw i) (hi : i.toInt = (I0 : Int)) (hb : I0 + 6 ≤ L) (hL : L ≤ 3072) {h : List am_E} (hh : I h) : ∃ h2, I h2 ∧ ∀ n r, am_go L xs n 700 354 1819 lw [] h2 = some r → ∃ n2, am_go L xs n2 700 354 806 lw [] h = some r := by
  obtain ⟨n1, r1, h1, n2, r2, h2, g1, sh, g2, i2, k1, k2, e⟩ := P h [.int (xs (I0 + 1)), .int (xs (I0 + 2))] 699 (by decide) ⟨lw_int _, ⟨lw_int _, trivial⟩⟩ hh
  refine ⟨h2, i2, fun n r hr => ⟨n1 + (n2 + (n + 1 + 1) + 1 + 5 + 5 + 1 + 1) + 1 + 5 + 5 + 1, ?_⟩⟩
  refine ag_al (m := 1) (a := 0) (b := 0) rfl hl.2.1 ?_
  refine lj_x (k := 1) 1 (a0 := 0) (b0 := 0) (a1 := 0) (b1 := 0) (a2 := 0) (b2 := 0) (a3 := 0) (b3 := 0) (a4 := 0) (b4 := 0) hl hi rfl (by omega) hL rfl rfl rfl rfl rfl ?_
  refine lj_x (k := 2) 2 (a0 := 0) (b0 := 0) (a1 := 0) (b1 := 0) (a2 := 0) (b2 := 0) (a3 := 0) (b3 := 0) (a4 := 0) (b4 := 0) hl hi rfl (by omega) hL rfl rfl rfl rfl rfl ?_
  refine lj_call (p := 1) (vs := [.int (xs (I0 + 1)), .int (xs (I0 + 2))]) (w := 88) (a := 153) (b := 2) rfl (by decide) rfl (hI _ hh) (by decide +kernel) (by decide) (by show Nat.ble 3 _ = true; decide +kernel) g1 ?_
  refine lj_pop (a := 0) (b := 0) rfl k1 ?_
  refine ag_al (m := 2) (a := 0) (b := 0) rfl hl.2.2.1 ?_
  refine lj_x (k := 1) 1 (a0 := 0) (b0 := 0) (a1 := 0) (b1 := 0) (a2 := 0) (b2 := 0) (a3 := 0) (b3 := 0) (a4 := 0) (b4 := 0) hl hi rfl (by omega) hL rfl rfl rfl rfl rfl ?_
  refine lj_x (k := 2) 2 (a0 := 0) (b0 := 0) (a1 := 0) (b1 := 0) (a2 := 0) (b2 := 0) (a3 := 0) (b3 := 0) (a4 := 0) (b4 := 0) hl hi rfl (by omega) hL rfl rfl rfl rfl rfl ?_
  refine lj_call (p := 219) (vs := [.int (xs (I0 + 1)), .int (xs (I0 + 2))]) (w := 91) (a := 279) (b := 2) rfl (by decide) rfl sh (by decide +kernel) (by decide) (by show Nat.ble 3 _ = true; decide +kernel) g2 ?_
  refine lj_pop (a := 0) (b := 0) rfl k2 ?_
  exact ag_go (o := 983) (a := 1819) (b := 0) rfl hr
theorem lw_c17 {I : List am_E → Prop} {L : Nat} {xs : Nat → Int32} (hI : ∀ h, I h → ae_shp h) (P : lw_PL I L xs [] 154 280 0 false) {lw : am_L} {i : Int32} {I0 : Nat} (hl : lw_L lw i) (hi : i.toInt = (I0 : Int)) (hb : I0 + 6 ≤ L) (hL : L ≤ 3072) {h : List am_E} (hh : I h) : ∃ h2, I h2 ∧ ∀ n r, am_go L xs n 700 354 1819 lw [] h2 = some r → ∃ n2, am_go L xs n2 700 354 839 lw [] h = some r := by
  obtain ⟨n1, r1, h1, n2, r2, h2, g1, sh, g2, i2, k1, k2, e⟩ := P h [] 699 (by decide) trivial hh
  refine ⟨h2, i2, fun n r hr => ⟨n1 + (n2 + (n + 1 + 1) + 1 + 1 + 1) + 1 + 1, ?_⟩⟩
  refine ag_al (m := 1) (a := 0) (b := 0) rfl hl.2.1 ?_
  refine lj_call (p := 1) (vs := []) (w := 92) (a := 154) (b := 0) rfl (by decide) rfl (hI _ hh) (by decide +kernel) (by decide) (by show Nat.ble 1 _ = true; decide +kernel) g1 ?_
  refine lj_pop (a := 0) (b := 0) rfl k1 ?_
  refine ag_al (m := 2) (a := 0) (b := 0) rfl hl.2.2.1 ?_
  refine lj_call (p := 219) (vs := []) (w := 95) (a := 280) (b := 0) rfl (by decide) rfl sh (by decide +kernel) (by decide) (by show Nat.ble 1 _ = true; decide +kernel) g2 ?_
  refine lj_pop (a := 0) (b := 0) rfl k2 ?_
  exact ag_go (o := 970) (a := 1819) (b := 0) rfl hr
theorem lw_c18 {I : List am_E → Prop} {L : Nat} {xs : Nat → Int32} (hI : ∀ h, I h → ae_shp h) (P : lw_PL I L xs [] 155 281 0 false) {lw : am_L} {i : Int32} {I0 : Nat} (hl : lw_L lw i) (hi : i.toInt = (I0 : Int)) (hb : I0 + 6 ≤ L) (hL : L ≤ 3072) {h : List am_E} (hh : I h) : ∃ h2, I h2 ∧ ∀ n r, am_go L xs n 700 354 1819 lw [] h2 = some r → ∃ n2, am_go L xs n2 700 354 852 lw [] h = some r := by
  obtain ⟨n1, r1, h1, n2, r2, h2, g1, sh, g2, i2, k1, k2, e⟩ := P h [] 699 (by decide) trivial hh
  refine ⟨h2, i2, fun n r hr => ⟨n1 + (n2 + (n + 1 + 1) + 1 + 1 + 1) + 1 + 1, ?_⟩⟩
  refine ag_al (m := 1) (a := 0) (b := 0) rfl hl.2.1 ?_
  refine lj_call (p := 1) (vs := []) (w := 96) (a := 155) (b := 0) rfl (by decide) rfl (hI _ hh) (by decide +kernel) (by decide) (by show Nat.ble 1 _ = true; decide +kernel) g1 ?_
  refine lj_pop (a := 0) (b := 0) rfl k1 ?_
  refine ag_al (m := 2) (a := 0) (b := 0) rfl hl.2.2.1 ?_
  refine lj_call (p := 219) (vs := []) (w := 99) (a := 281) (b := 0) rfl (by decide) rfl sh (by decide +kernel) (by decide) (by show Nat.ble 1 _ = true; decide +kernel) g2 ?_
  refine lj_pop (a := 0) (b := 0) rfl k2 ?_
  exact ag_go (o := 957) (a := 1819) (b := 0) rfl hr
theorem lw_c19 {I : List am_E → Prop} {L : Nat} {xs : Nat → Int32} (hI : ∀ h, I h → ae_shp h) (P : lw_PL I L xs [] 156 282 0 false) {lw : am_L} {i : Int32} {I0 : Nat} (hl : lw_L lw i) (hi : i.toInt = (I0 : Int)) (hb : I0 + 6 ≤ L) (hL : L ≤ 3072) {h : List am_E} (hh : I h) : ∃ h2, I h2 ∧ ∀ n r, am_go L xs n 700 354 1819 lw [] h2 = some r → ∃ n2, am_go L xs n2 700 354 865 lw [] h = some r := by
  obtain ⟨n1, r1, h1, n2, r2, h2, g1, sh, g2, i2, k1, k2, e⟩ := P h [] 699 (by decide) trivial hh
  refine ⟨h2, i2, fun n r hr => ⟨n1 + (n2 + (n + 1 + 1) + 1 + 1 + 1) + 1 + 1, ?_⟩⟩
  refine ag_al (m := 1) (a := 0) (b := 0) rfl hl.2.1 ?_
  refine lj_call (p := 1) (vs := []) (w := 100) (a := 156) (b := 0) rfl (by decide) rfl (hI _ hh) (by decide +kernel) (by decide) (by show Nat.ble 1 _ = true; decide +kernel) g1 ?_
  refine lj_pop (a := 0) (b := 0) rfl k1 ?_
  refine ag_al (m := 2) (a := 0) (b := 0) rfl hl.2.2.1 ?_
  refine lj_call (p := 219) (vs := []) (w := 104) (a := 282) (b := 0) rfl (by decide) rfl sh (by decide +kernel) (by decide) (by show Nat.ble 1 _ = true; decide +kernel) g2 ?_
  refine lj_pop (a := 0) (b := 0) rfl k2 ?_
  exact ag_go (o := 944) (a := 1819) (b := 0) rfl hr
theorem lw_c20 {I : List am_E → Prop} {L : Nat} {xs : Nat → Int32} (hI : ∀ h, I h → ae_shp h) (P : lw_PL I L xs [(0, 0, (-2147483648), 2147483647), (0, 0, (-2147483648), 2147483647)] 157 283 0 false) {lw : am_L} {i : Int32} {I0 : Nat} (hl : lw_L lw i) (hi : i.toInt = (I0 : Int)) (hb : I0 + 6 ≤ L) (hL : L ≤ 3072) {h : List am_E} (hh : I h) : ∃ h2, I h2 ∧ ∀ n r, am_go L xs n 700 354 1819 lw [] h2 = some r → ∃ n2, am_go L xs n2 700 354 878 lw [] h = some r := by
  obtain ⟨n1, r1, h1, n2, r2, h2, g1, sh, g2, i2, k1, k2, e⟩ := P h [.int (xs (I0 + 1)), .int (xs (I0 + 2))] 699 (by decide) ⟨lw_int _, ⟨lw_int _, trivial⟩⟩ hh
  refine ⟨h2, i2, fun n r hr => ⟨n1 + (n2 + (n + 1 + 1) + 1 + 5 + 5 + 1 + 1) + 1 + 5 + 5 + 1, ?_⟩⟩
  refine ag_al (m := 1) (a := 0) (b := 0) rfl hl.2.1 ?_
  refine lj_x (k := 1) 1 (a0 := 0) (b0 := 0) (a1 := 0) (b1 := 0) (a2 := 0) (b2 := 0) (a3 := 0) (b3 := 0) (a4 := 0) (b4 := 0) hl hi rfl (by omega) hL rfl rfl rfl rfl rfl ?_
  refine lj_x (k := 2) 2 (a0 := 0) (b0 := 0) (a1 := 0) (b1 := 0) (a2 := 0) (b2 := 0) (a3 := 0) (b3 := 0) (a4 := 0) (b4 := 0) hl hi rfl (by omega) hL rfl rfl rfl rfl rfl ?_
  refine lj_call (p := 1) (vs := [.int (xs (I0 + 1)), .int (xs (I0 + 2))]) (w := 105) (a := 157) (b := 2) rfl (by decide) rfl (hI _ hh) (by decide +kernel) (by decide) (by show Nat.ble 3 _ = true; decide +kernel) g1 ?_
  refine lj_pop (a := 0) (b := 0) rfl k1 ?_
  refine ag_al (m := 2) (a := 0) (b := 0) rfl hl.2.2.1 ?_
  refine lj_x (k := 1) 1 (a0 := 0) (b0 := 0) (a1 := 0) (b1 := 0) (a2 := 0) (b2 := 0) (a3 := 0) (b3 := 0) (a4 := 0) (b4 := 0) hl hi rfl (by omega) hL rfl rfl rfl rfl rfl ?_
  refine lj_x (k := 2) 2 (a0 := 0) (b0 := 0) (a1 := 0) (b1 := 0) (a2 := 0) (b2 := 0) (a3 := 0) (b3 := 0) (a4 := 0) (b4 := 0) hl hi rfl (by omega) hL rfl rfl rfl rfl rfl ?_
  refine lj_call (p := 219) (vs := [.int (xs (I0 + 1)), .int (xs (I0 + 2))]) (w := 108) (a := 283) (b := 2) rfl (by decide) rfl sh (by decide +kernel) (by decide) (by show Nat.ble 3 _ = true; decide +kernel) g2 ?_
  refine lj_pop (a := 0) (b := 0) rfl k2 ?_
  exact ag_go (o := 911) (a := 1819) (b := 0) rfl hr
theorem lw_c21 {I : List am_E → Prop} {L : Nat} {xs : Nat → Int32} (hI : ∀ h, I h → ae_shp h) (P : lw_PL I L xs [(0, 0, (-2147483648), 2147483647)] 158 294 0 false) {lw : am_L} {i : Int32} {I0 : Nat} (hl : lw_L lw i) (hi : i.toInt = (I0 : Int)) (hb : I0 + 6 ≤ L) (hL : L ≤ 3072) {h : List am_E} (hh : I h) : ∃ h2, I h2 ∧ ∀ n r, am_go L xs n 700 354 1819 lw [] h2 = some r → ∃ n2, am_go L xs n2 700 354 911 lw [] h = some r := by
  obtain ⟨n1, r1, h1, n2, r2, h2, g1, sh, g2, i2, k1, k2, e⟩ := P h [.int (xs (I0 + 1))] 699 (by decide) ⟨lw_int _, trivial⟩ hh
  refine ⟨h2, i2, fun n r hr => ⟨n1 + (n2 + (n + 1 + 1) + 1 + 5 + 1 + 1) + 1 + 5 + 1, ?_⟩⟩
  refine ag_al (m := 1) (a := 0) (b := 0) rfl hl.2.1 ?_
  refine lj_x (k := 1) 1 (a0 := 0) (b0 := 0) (a1 := 0) (b1 := 0) (a2 := 0) (b2 := 0) (a3 := 0) (b3 := 0) (a4 := 0) (b4 := 0) hl hi rfl (by omega) hL rfl rfl rfl rfl rfl ?_
  refine lj_call (p := 1) (vs := [.int (xs (I0 + 1))]) (w := 109) (a := 158) (b := 1) rfl (by decide) rfl (hI _ hh) (by decide +kernel) (by decide) (by show Nat.ble 2 _ = true; decide +kernel) g1 ?_
  refine lj_pop (a := 0) (b := 0) rfl k1 ?_
  refine ag_al (m := 2) (a := 0) (b := 0) rfl hl.2.2.1 ?_
  refine lj_x (k := 1) 1 (a0 := 0) (b0 := 0) (a1 := 0) (b1 := 0) (a2 := 0) (b2 := 0) (a3 := 0) (b3 := 0) (a4 := 0) (b4 := 0) hl hi rfl (by omega) hL rfl rfl rfl rfl rfl ?_
  refine lj_call (p := 219) (vs := [.int (xs (I0 + 1))]) (w := 112) (a := 294) (b := 1) rfl (by decide) rfl sh (by decide +kernel) (by decide) (by show Nat.ble 2 _ = true; decide +kernel) g2 ?_
  refine lj_pop (a := 0) (b := 0) rfl k2 ?_
  exact ag_go (o := 888) (a := 1819) (b := 0) rfl hr
theorem lw_c22 {I : List am_E → Prop} {L : Nat} {xs : Nat → Int32} (hI : ∀ h, I h → ae_shp h) (P : lw_PL I L xs [] 159 295 0 false) {lw : am_L} {i : Int32} {I0 : Nat} (hl : lw_L lw i) (hi : i.toInt = (I0 : Int)) (hb : I0 + 6 ≤ L) (hL : L ≤ 3072) {h : List am_E} (hh : I h) : ∃ h2, I h2 ∧ ∀ n r, am_go L xs n 700 354 1819 lw [] h2 = some r → ∃ n2, am_go L xs n2 700 354 934 lw [] h = some r := by
  obtain ⟨n1, r1, h1, n2, r2, h2, g1, sh, g2, i2, k1, k2, e⟩ := P h [] 699 (by decide) trivial hh
  refine ⟨h2, i2, fun n r hr => ⟨n1 + (n2 + (n + 1 + 1) + 1 + 1 + 1) + 1 + 1, ?_⟩⟩
  refine ag_al (m := 1) (a := 0) (b := 0) rfl hl.2.1 ?_
  refine lj_call (p := 1) (vs := []) (w := 113) (a := 159) (b := 0) rfl (by decide) rfl (hI _ hh) (by decide +kernel) (by decide) (by show Nat.ble 1 _ = true; decide +kernel) g1 ?_
  refine lj_pop (a := 0) (b := 0) rfl k1 ?_
  refine ag_al (m := 2) (a := 0) (b := 0) rfl hl.2.2.1 ?_
  refine lj_call (p := 219) (vs := []) (w := 116) (a := 295) (b := 0) rfl (by decide) rfl sh (by decide +kernel) (by decide) (by show Nat.ble 1 _ = true; decide +kernel) g2 ?_
  refine lj_pop (a := 0) (b := 0) rfl k2 ?_
  exact ag_go (o := 875) (a := 1819) (b := 0) rfl hr
theorem lw_c23 {I : List am_E → Prop} {L : Nat} {xs : Nat → Int32} (hI : ∀ h, I h → ae_shp h) (P : lw_PL I L xs [(0, 0, (-2147483648), 2147483647)] 160 296 0 false) {lw : am_L} {i : Int32} {I0 : Nat} (hl : lw_L lw i) (hi : i.toInt = (I0 : Int)) (hb : I0 + 6 ≤ L) (hL : L ≤ 3072) {h : List am_E} (hh : I h) : ∃ h2, I h2 ∧ ∀ n r, am_go L xs n 700 354 1819 lw [] h2 = some r → ∃ n2, am_go L xs n2 700 354 947 lw [] h = some r := by
  obtain ⟨n1, r1, h1, n2, r2, h2, g1, sh, g2, i2, k1, k2, e⟩ := P h [.int (xs (I0 + 1))] 699 (by decide) ⟨lw_int _, trivial⟩ hh
  refine ⟨h2, i2, fun n r hr => ⟨n1 + (n2 + (n + 1 + 1) + 1 + 5 + 1 + 1) + 1 + 5 + 1, ?_⟩⟩
  refine ag_al (m := 1) (a := 0) (b := 0) rfl hl.2.1 ?_
  refine lj_x (k := 1) 1 (a0 := 0) (b0 := 0) (a1 := 0) (b1 := 0) (a2 := 0) (b2 := 0) (a3 := 0) (b3 := 0) (a4 := 0) (b4 := 0) hl hi rfl (by omega) hL rfl rfl rfl rfl rfl ?_
  refine lj_call (p := 1) (vs := [.int (xs (I0 + 1))]) (w := 117) (a := 160) (b := 1) rfl (by decide) rfl (hI _ hh) (by decide +kernel) (by decide) (by show Nat.ble 2 _ = true; decide +kernel) g1 ?_
  refine lj_pop (a := 0) (b := 0) rfl k1 ?_
  refine ag_al (m := 2) (a := 0) (b := 0) rfl hl.2.2.1 ?_
  refine lj_x (k := 1) 1 (a0 := 0) (b0 := 0) (a1 := 0) (b1 := 0) (a2 := 0) (b2 := 0) (a3 := 0) (b3 := 0) (a4 := 0) (b4 := 0) hl hi rfl (by omega) hL rfl rfl rfl rfl rfl ?_
  refine lj_call (p := 219) (vs := [.int (xs (I0 + 1))]) (w := 120) (a := 296) (b := 1) rfl (by decide) rfl sh (by decide +kernel) (by decide) (by show Nat.ble 2 _ = true; decide +kernel) g2 ?_
  refine lj_pop (a := 0) (b := 0) rfl k2 ?_
  exact ag_go (o := 852) (a := 1819) (b := 0) rfl hr
theorem lw_c24 {I : List am_E → Prop} {L : Nat} {xs : Nat → Int32} (hI : ∀ h, I h → ae_shp h) (P : lw_PL I L xs [(0, 0, (-2147483648), 2147483647)] 162 298 0 false) {lw : am_L} {i : Int32} {I0 : Nat} (hl : lw_L lw i) (hi : i.toInt = (I0 : Int)) (hb : I0 + 6 ≤ L) (hL : L ≤ 3072) {h : List am_E} (hh : I h) : ∃ h2, I h2 ∧ ∀ n r, am_go L xs n 700 354 1819 lw [] h2 = some r → ∃ n2, am_go L xs n2 700 354 970 lw [] h = some r := by
  obtain ⟨n1, r1, h1, n2, r2, h2, g1, sh, g2, i2, k1, k2, e⟩ := P h [.int (xs (I0 + 1))] 699 (by decide) ⟨lw_int _, trivial⟩ hh
  refine ⟨h2, i2, fun n r hr => ⟨n1 + (n2 + (n + 1 + 1) + 1 + 5 + 1 + 1) + 1 + 5 + 1, ?_⟩⟩
  refine ag_al (m := 1) (a := 0) (b := 0) rfl hl.2.1 ?_
  refine lj_x (k := 1) 1 (a0 := 0) (b0 := 0) (a1 := 0) (b1 := 0) (a2 := 0) (b2 := 0) (a3 := 0) (b3 := 0) (a4 := 0) (b4 := 0) hl hi rfl (by omega) hL rfl rfl rfl rfl rfl ?_
  refine lj_call (p := 1) (vs := [.int (xs (I0 + 1))]) (w := 121) (a := 162) (b := 1) rfl (by decide) rfl (hI _ hh) (by decide +kernel) (by decide) (by show Nat.ble 2 _ = true; decide +kernel) g1 ?_
  refine lj_pop (a := 0) (b := 0) rfl k1 ?_
  refine ag_al (m := 2) (a := 0) (b := 0) rfl hl.2.2.1 ?_
  refine lj_x (k := 1) 1 (a0 := 0) (b0 := 0) (a1 := 0) (b1 := 0) (a2 := 0) (b2 := 0) (a3 := 0) (b3 := 0) (a4 := 0) (b4 := 0) hl hi rfl (by omega) hL rfl rfl rfl rfl rfl ?_
  refine lj_call (p := 219) (vs := [.int (xs (I0 + 1))]) (w := 125) (a := 298) (b := 1) rfl (by decide) rfl sh (by decide +kernel) (by decide) (by show Nat.ble 2 _ = true; decide +kernel) g2 ?_
  refine lj_pop (a := 0) (b := 0) rfl k2 ?_
  exact ag_go (o := 829) (a := 1819) (b := 0) rfl hr
theorem lw_c25 {I : List am_E → Prop} {L : Nat} {xs : Nat → Int32} (hI : ∀ h, I h → ae_shp h) (P : lw_PL I L xs [(0, 0, (-2147483648), 2147483647)] 163 299 0 false) {lw : am_L} {i : Int32} {I0 : Nat} (hl : lw_L lw i) (hi : i.toInt = (I0 : Int)) (hb : I0 + 6 ≤ L) (hL : L ≤ 3072) {h : List am_E} (hh : I h) : ∃ h2, I h2 ∧ ∀ n r, am_go L xs n 700 354 1819 lw [] h2 = some r → ∃ n2, am_go L xs n2 700 354 993 lw [] h = some r := by
  obtain ⟨n1, r1, h1, n2, r2, h2, g1, sh, g2, i2, k1, k2, e⟩ := P h [.int (xs (I0 + 1))] 699 (by decide) ⟨lw_int _, trivial⟩ hh
  refine ⟨h2, i2, fun n r hr => ⟨n1 + (n2 + (n + 1 + 1) + 1 + 5 + 1 + 1) + 1 + 5 + 1, ?_⟩⟩
  refine ag_al (m := 1) (a := 0) (b := 0) rfl hl.2.1 ?_
  refine lj_x (k := 1) 1 (a0 := 0) (b0 := 0) (a1 := 0) (b1 := 0) (a2 := 0) (b2 := 0) (a3 := 0) (b3 := 0) (a4 := 0) (b4 := 0) hl hi rfl (by omega) hL rfl rfl rfl rfl rfl ?_
  refine lj_call (p := 1) (vs := [.int (xs (I0 + 1))]) (w := 126) (a := 163) (b := 1) rfl (by decide) rfl (hI _ hh) (by decide +kernel) (by decide) (by show Nat.ble 2 _ = true; decide +kernel) g1 ?_
  refine lj_pop (a := 0) (b := 0) rfl k1 ?_
  refine ag_al (m := 2) (a := 0) (b := 0) rfl hl.2.2.1 ?_
  refine lj_x (k := 1) 1 (a0 := 0) (b0 := 0) (a1 := 0) (b1 := 0) (a2 := 0) (b2 := 0) (a3 := 0) (b3 := 0) (a4 := 0) (b4 := 0) hl hi rfl (by omega) hL rfl rfl rfl rfl rfl ?_
  refine lj_call (p := 219) (vs := [.int (xs (I0 + 1))]) (w := 129) (a := 299) (b := 1) rfl (by decide) rfl sh (by decide +kernel) (by decide) (by show Nat.ble 2 _ = true; decide +kernel) g2 ?_
  refine lj_pop (a := 0) (b := 0) rfl k2 ?_
  exact ag_go (o := 806) (a := 1819) (b := 0) rfl hr
theorem lw_c26 {I : List am_E → Prop} {L : Nat} {xs : Nat → Int32} (hI : ∀ h, I h → ae_shp h) (P : lw_PL I L xs [(0, 0, (-2147483648), 2147483647), (0, 0, (-2147483648), 2147483647)] 164 300 0 false) {lw : am_L} {i : Int32} {I0 : Nat} (hl : lw_L lw i) (hi : i.toInt = (I0 : Int)) (hb : I0 + 6 ≤ L) (hL : L ≤ 3072) {h : List am_E} (hh : I h) : ∃ h2, I h2 ∧ ∀ n r, am_go L xs n 700 354 1819 lw [] h2 = some r → ∃ n2, am_go L xs n2 700 354 1016 lw [] h = some r := by
  obtain ⟨n1, r1, h1, n2, r2, h2, g1, sh, g2, i2, k1, k2, e⟩ := P h [.int (xs (I0 + 1)), .int (xs (I0 + 2))] 699 (by decide) ⟨lw_int _, ⟨lw_int _, trivial⟩⟩ hh
  refine ⟨h2, i2, fun n r hr => ⟨n1 + (n2 + (n + 1 + 1) + 1 + 5 + 5 + 1 + 1) + 1 + 5 + 5 + 1, ?_⟩⟩
  refine ag_al (m := 1) (a := 0) (b := 0) rfl hl.2.1 ?_
  refine lj_x (k := 1) 1 (a0 := 0) (b0 := 0) (a1 := 0) (b1 := 0) (a2 := 0) (b2 := 0) (a3 := 0) (b3 := 0) (a4 := 0) (b4 := 0) hl hi rfl (by omega) hL rfl rfl rfl rfl rfl ?_
  refine lj_x (k := 2) 2 (a0 := 0) (b0 := 0) (a1 := 0) (b1 := 0) (a2 := 0) (b2 := 0) (a3 := 0) (b3 := 0) (a4 := 0) (b4 := 0) hl hi rfl (by omega) hL rfl rfl rfl rfl rfl ?_
  refine lj_call (p := 1) (vs := [.int (xs (I0 + 1)), .int (xs (I0 + 2))]) (w := 130) (a := 164) (b := 2) rfl (by decide) rfl (hI _ hh) (by decide +kernel) (by decide) (by show Nat.ble 3 _ = true; decide +kernel) g1 ?_
  refine lj_pop (a := 0) (b := 0) rfl k1 ?_
  refine ag_al (m := 2) (a := 0) (b := 0) rfl hl.2.2.1 ?_
  refine lj_x (k := 1) 1 (a0 := 0) (b0 := 0) (a1 := 0) (b1 := 0) (a2 := 0) (b2 := 0) (a3 := 0) (b3 := 0) (a4 := 0) (b4 := 0) hl hi rfl (by omega) hL rfl rfl rfl rfl rfl ?_
  refine lj_x (k := 2) 2 (a0 := 0) (b0 := 0) (a1 := 0) (b1 := 0) (a2 := 0) (b2 := 0) (a3 := 0) (b3 := 0) (a4 := 0) (b4 := 0) hl hi rfl (by omega) hL rfl rfl rfl rfl rfl ?_
  refine lj_call (p := 219) (vs := [.int (xs (I0 + 1)), .int (xs (I0 + 2))]) (w := 134) (a := 300) (b := 2) rfl (by decide) rfl sh (by decide +kernel) (by decide) (by show Nat.ble 3 _ = true; decide +kernel) g2 ?_
  refine lj_pop (a := 0) (b := 0) rfl k2 ?_
  exact ag_go (o := 773) (a := 1819) (b := 0) rfl hr
theorem lw_c27 {I : List am_E → Prop} {L : Nat} {xs : Nat → Int32} (hI : ∀ h, I h → ae_shp h) (P : lw_PL I L xs [(0, 0, (-2147483648), 2147483647), (0, 0, (-2147483648), 2147483647)] 165 301 0 false) {lw : am_L} {i : Int32} {I0 : Nat} (hl : lw_L lw i) (hi : i.toInt = (I0 : Int)) (hb : I0 + 6 ≤ L) (hL : L ≤ 3072) {h : List am_E} (hh : I h) : ∃ h2, I h2 ∧ ∀ n r, am_go L xs n 700 354 1819 lw [] h2 = some r → ∃ n2, am_go L xs n2 700 354 1049 lw [] h = some r := by
  obtain ⟨n1, r1, h1, n2, r2, h2, g1, sh, g2, i2, k1, k2, e⟩ := P h [.int (xs (I0 + 1)), .int (xs (I0 + 2))] 699 (by decide) ⟨lw_int _, ⟨lw_int _, trivial⟩⟩ hh
  refine ⟨h2, i2, fun n r hr => ⟨n1 + (n2 + (n + 1 + 1) + 1 + 5 + 5 + 1 + 1) + 1 + 5 + 5 + 1, ?_⟩⟩
  refine ag_al (m := 1) (a := 0) (b := 0) rfl hl.2.1 ?_
  refine lj_x (k := 1) 1 (a0 := 0) (b0 := 0) (a1 := 0) (b1 := 0) (a2 := 0) (b2 := 0) (a3 := 0) (b3 := 0) (a4 := 0) (b4 := 0) hl hi rfl (by omega) hL rfl rfl rfl rfl rfl ?_
  refine lj_x (k := 2) 2 (a0 := 0) (b0 := 0) (a1 := 0) (b1 := 0) (a2 := 0) (b2 := 0) (a3 := 0) (b3 := 0) (a4 := 0) (b4 := 0) hl hi rfl (by omega) hL rfl rfl rfl rfl rfl ?_
  refine lj_call (p := 1) (vs := [.int (xs (I0 + 1)), .int (xs (I0 + 2))]) (w := 135) (a := 165) (b := 2) rfl (by decide) rfl (hI _ hh) (by decide +kernel) (by decide) (by show Nat.ble 3 _ = true; decide +kernel) g1 ?_
  refine lj_pop (a := 0) (b := 0) rfl k1 ?_
  refine ag_al (m := 2) (a := 0) (b := 0) rfl hl.2.2.1 ?_
  refine lj_x (k := 1) 1 (a0 := 0) (b0 := 0) (a1 := 0) (b1 := 0) (a2 := 0) (b2 := 0) (a3 := 0) (b3 := 0) (a4 := 0) (b4 := 0) hl hi rfl (by omega) hL rfl rfl rfl rfl rfl ?_
  refine lj_x (k := 2) 2 (a0 := 0) (b0 := 0) (a1 := 0) (b1 := 0) (a2 := 0) (b2 := 0) (a3 := 0) (b3 := 0) (a4 := 0) (b4 := 0) hl hi rfl (by omega) hL rfl rfl rfl rfl rfl ?_
  refine lj_call (p := 219) (vs := [.int (xs (I0 + 1)), .int (xs (I0 + 2))]) (w := 138) (a := 301) (b := 2) rfl (by decide) rfl sh (by decide +kernel) (by decide) (by show Nat.ble 3 _ = true; decide +kernel) g2 ?_
  refine lj_pop (a := 0) (b := 0) rfl k2 ?_
  exact ag_go (o := 740) (a := 1819) (b := 0) rfl hr
theorem lw_c28 {I : List am_E → Prop} {L : Nat} {xs : Nat → Int32} (hI : ∀ h, I h → ae_shp h) (P : lw_PL I L xs [(0, 0, (-2147483648), 2147483647), (0, 0, (-2147483648), 2147483647)] 166 302 0 false) {lw : am_L} {i : Int32} {I0 : Nat} (hl : lw_L lw i) (hi : i.toInt = (I0 : Int)) (hb : I0 + 6 ≤ L) (hL : L ≤ 3072) {h : List am_E} (hh : I h) : ∃ h2, I h2 ∧ ∀ n r, am_go L xs n 700 354 1819 lw [] h2 = some r → ∃ n2, am_go L xs n2 700 354 1082 lw [] h = some r := by
  obtain ⟨n1, r1, h1, n2, r2, h2, g1, sh, g2, i2, k1, k2, e⟩ := P h [.int (xs (I0 + 1)), .int (xs (I0 + 2))] 699 (by decide) ⟨lw_int _, ⟨lw_int _, trivial⟩⟩ hh
  refine ⟨h2, i2, fun n r hr => ⟨n1 + (n2 + (n + 1 + 1) + 1 + 5 + 5 + 1 + 1) + 1 + 5 + 5 + 1, ?_⟩⟩
  refine ag_al (m := 1) (a := 0) (b := 0) rfl hl.2.1 ?_
  refine lj_x (k := 1) 1 (a0 := 0) (b0 := 0) (a1 := 0) (b1 := 0) (a2 := 0) (b2 := 0) (a3 := 0) (b3 := 0) (a4 := 0) (b4 := 0) hl hi rfl (by omega) hL rfl rfl rfl rfl rfl ?_
  refine lj_x (k := 2) 2 (a0 := 0) (b0 := 0) (a1 := 0) (b1 := 0) (a2 := 0) (b2 := 0) (a3 := 0) (b3 := 0) (a4 := 0) (b4 := 0) hl hi rfl (by omega) hL rfl rfl rfl rfl rfl ?_
  refine lj_call (p := 1) (vs := [.int (xs (I0 + 1)), .int (xs (I0 + 2))]) (w := 139) (a := 166) (b := 2) rfl (by decide) rfl (hI _ hh) (by decide +kernel) (by decide) (by show Nat.ble 3 _ = true; decide +kernel) g1 ?_
  refine lj_pop (a := 0) (b := 0) rfl k1 ?_
  refine ag_al (m := 2) (a := 0) (b := 0) rfl hl.2.2.1 ?_
  refine lj_x (k := 1) 1 (a0 := 0) (b0 := 0) (a1 := 0) (b1 := 0) (a2 := 0) (b2 := 0) (a3 := 0) (b3 := 0) (a4 := 0) (b4 := 0) hl hi rfl (by omega) hL rfl rfl rfl rfl rfl ?_
  refine lj_x (k := 2) 2 (a0 := 0) (b0 := 0) (a1 := 0) (b1 := 0) (a2 := 0) (b2 := 0) (a3 := 0) (b3 := 0) (a4 := 0) (b4 := 0) hl hi rfl (by omega) hL rfl rfl rfl rfl rfl ?_
  refine lj_call (p := 219) (vs := [.int (xs (I0 + 1)), .int (xs (I0 + 2))]) (w := 142) (a := 302) (b := 2) rfl (by decide) rfl sh (by decide +kernel) (by decide) (by show Nat.ble 3 _ = true; decide +kernel) g2 ?_
  refine lj_pop (a := 0) (b := 0) rfl k2 ?_
  exact ag_go (o := 707) (a := 1819) (b := 0) rfl hr
theorem lw_c29 {I : List am_E → Prop} {L : Nat} {xs : Nat → Int32} (hI : ∀ h, I h → ae_shp h) (P : lw_PL I L xs [] 167 305 0 false) {lw : am_L} {i : Int32} {I0 : Nat} (hl : lw_L lw i) (hi : i.toInt = (I0 : Int)) (hb : I0 + 6 ≤ L) (hL : L ≤ 3072) {h : List am_E} (hh : I h) : ∃ h2, I h2 ∧ ∀ n r, am_go L xs n 700 354 1819 lw [] h2 = some r → ∃ n2, am_go L xs n2 700 354 1115 lw [] h = some r := by
  obtain ⟨n1, r1, h1, n2, r2, h2, g1, sh, g2, i2, k1, k2, e⟩ := P h [] 699 (by decide) trivial hh
  refine ⟨h2, i2, fun n r hr => ⟨n1 + (n2 + (n + 1 + 1) + 1 + 1 + 1) + 1 + 1, ?_⟩⟩
  refine ag_al (m := 1) (a := 0) (b := 0) rfl hl.2.1 ?_
  refine lj_call (p := 1) (vs := []) (w := 143) (a := 167) (b := 0) rfl (by decide) rfl (hI _ hh) (by decide +kernel) (by decide) (by show Nat.ble 1 _ = true; decide +kernel) g1 ?_
  refine lj_pop (a := 0) (b := 0) rfl k1 ?_
  refine ag_al (m := 2) (a := 0) (b := 0) rfl hl.2.2.1 ?_
  refine lj_call (p := 219) (vs := []) (w := 146) (a := 305) (b := 0) rfl (by decide) rfl sh (by decide +kernel) (by decide) (by show Nat.ble 1 _ = true; decide +kernel) g2 ?_
  refine lj_pop (a := 0) (b := 0) rfl k2 ?_
  exact ag_go (o := 694) (a := 1819) (b := 0) rfl hr
theorem lw_c30 {I : List am_E → Prop} {L : Nat} {xs : Nat → Int32} (hI : ∀ h, I h → ae_shp h) (P : lw_PL I L xs [(0, 0, (-2147483648), 2147483647)] 168 308 0 false) {lw : am_L} {i : Int32} {I0 : Nat} (hl : lw_L lw i) (hi : i.toInt = (I0 : Int)) (hb : I0 + 6 ≤ L) (hL : L ≤ 3072) {h : List am_E} (hh : I h) : ∃ h2, I h2 ∧ ∀ n r, am_go L xs n 700 354 1819 lw [] h2 = some r → ∃ n2, am_go L xs n2 700 354 1128 lw [] h = some r := by
  obtain ⟨n1, r1, h1, n2, r2, h2, g1, sh, g2, i2, k1, k2, e⟩ := P h [.int (xs (I0 + 1))] 699 (by decide) ⟨lw_int _, trivial⟩ hh
  refine ⟨h2, i2, fun n r hr => ⟨n1 + (n2 + (n + 1 + 1) + 1 + 5 + 1 + 1) + 1 + 5 + 1, ?_⟩⟩
  refine ag_al (m := 1) (a := 0) (b := 0) rfl hl.2.1 ?_
  refine lj_x (k := 1) 1 (a0 := 0) (b0 := 0) (a1 := 0) (b1 := 0) (a2 := 0) (b2 := 0) (a3 := 0) (b3 := 0) (a4 := 0) (b4 := 0) hl hi rfl (by omega) hL rfl rfl rfl rfl rfl ?_
  refine lj_call (p := 1) (vs := [.int (xs (I0 + 1))]) (w := 147) (a := 168) (b := 1) rfl (by decide) rfl (hI _ hh) (by decide +kernel) (by decide) (by show Nat.ble 2 _ = true; decide +kernel) g1 ?_
  refine lj_pop (a := 0) (b := 0) rfl k1 ?_
  refine ag_al (m := 2) (a := 0) (b := 0) rfl hl.2.2.1 ?_
  refine lj_x (k := 1) 1 (a0 := 0) (b0 := 0) (a1 := 0) (b1 := 0) (a2 := 0) (b2 := 0) (a3 := 0) (b3 := 0) (a4 := 0) (b4 := 0) hl hi rfl (by omega) hL rfl rfl rfl rfl rfl ?_
  refine lj_call (p := 219) (vs := [.int (xs (I0 + 1))]) (w := 150) (a := 308) (b := 1) rfl (by decide) rfl sh (by decide +kernel) (by decide) (by show Nat.ble 2 _ = true; decide +kernel) g2 ?_
  refine lj_pop (a := 0) (b := 0) rfl k2 ?_
  exact ag_go (o := 671) (a := 1819) (b := 0) rfl hr
theorem lw_c31 {I : List am_E → Prop} {L : Nat} {xs : Nat → Int32} (hI : ∀ h, I h → ae_shp h) (P : lw_PL I L xs [(0, 0, (-2147483648), 2147483647), (0, 0, (-2147483648), 2147483647)] 169 311 0 false) {lw : am_L} {i : Int32} {I0 : Nat} (hl : lw_L lw i) (hi : i.toInt = (I0 : Int)) (hb : I0 + 6 ≤ L) (hL : L ≤ 3072) {h : List am_E} (hh : I h) : ∃ h2, I h2 ∧ ∀ n r, am_go L xs n 700 354 1819 lw [] h2 = some r → ∃ n2, am_go L xs n2 700 354 1151 lw [] h = some r := by
  obtain ⟨n1, r1, h1, n2, r2, h2, g1, sh, g2, i2, k1, k2, e⟩ := P h [.int (xs (I0 + 1)), .int (xs (I0 + 2))] 699 (by decide) ⟨lw_int _, ⟨lw_int _, trivial⟩⟩ hh
  refine ⟨h2, i2, fun n r hr => ⟨n1 + (n2 + (n + 1 + 1) + 1 + 5 + 5 + 1 + 1) + 1 + 5 + 5 + 1, ?_⟩⟩
  refine ag_al (m := 1) (a := 0) (b := 0) rfl hl.2.1 ?_
  refine lj_x (k := 1) 1 (a0 := 0) (b0 := 0) (a1 := 0) (b1 := 0) (a2 := 0) (b2 := 0) (a3 := 0) (b3 := 0) (a4 := 0) (b4 := 0) hl hi rfl (by omega) hL rfl rfl rfl rfl rfl ?_
  refine lj_x (k := 2) 2 (a0 := 0) (b0 := 0) (a1 := 0) (b1 := 0) (a2 := 0) (b2 := 0) (a3 := 0) (b3 := 0) (a4 := 0) (b4 := 0) hl hi rfl (by omega) hL rfl rfl rfl rfl rfl ?_
  refine lj_call (p := 1) (vs := [.int (xs (I0 + 1)), .int (xs (I0 + 2))]) (w := 151) (a := 169) (b := 2) rfl (by decide) rfl (hI _ hh) (by decide +kernel) (by decide) (by show Nat.ble 3 _ = true; decide +kernel) g1 ?_
  refine lj_pop (a := 0) (b := 0) rfl k1 ?_
  refine ag_al (m := 2) (a := 0) (b := 0) rfl hl.2.2.1 ?_
  refine lj_x (k := 1) 1 (a0 := 0) (b0 := 0) (a1 := 0) (b1 := 0) (a2 := 0) (b2 := 0) (a3 := 0) (b3 := 0) (a4 := 0) (b4 := 0) hl hi rfl (by omega) hL rfl rfl rfl rfl rfl ?_
  refine lj_x (k := 2) 2 (a0 := 0) (b0 := 0) (a1 := 0) (b1 := 0) (a2 := 0) (b2 := 0) (a3 := 0) (b3 := 0) (a4 := 0) (b4 := 0) hl hi rfl (by omega) hL rfl rfl rfl rfl rfl ?_
  refine lj_call (p := 219) (vs := [.int (xs (I0 + 1)), .int (xs (I0 + 2))]) (w := 154) (a := 311) (b := 2) rfl (by decide) rfl sh (by decide +kernel) (by decide) (by show Nat.ble 3 _ = true; decide +kernel) g2 ?_
  refine lj_pop (a := 0) (b := 0) rfl k2 ?_
  exact ag_go (o := 638) (a := 1819) (b := 0) rfl hr
theorem lw_c32 {I : List am_E → Prop} {L : Nat} {xs : Nat → Int32} (hI : ∀ h, I h → ae_shp h) (P : lw_PL I L xs [(0, 0, (-2147483648), 2147483647), (0, 0, 0, 1), (0, 0, (-2147483648), 2147483647)] 170 312 0 false) {lw : am_L} {i : Int32} {I0 : Nat} (hl : lw_L lw i) (hi : i.toInt = (I0 : Int)) (hb : I0 + 6 ≤ L) (hL : L ≤ 3072) {h : List am_E} (hh : I h) : ∃ h2, I h2 ∧ ∀ n r, am_go L xs n 700 354 1819 lw [] h2 = some r → ∃ n2, am_go L xs n2 700 354 1184 lw [] h = some r := by
  by_cases hz : xs (I0 + 2) = 0
  · obtain ⟨n1, r1, h1, n2, r2, h2, g1, sh, g2, i2, k1, k2, e⟩ := P h [.int (xs (I0 + 1)), .int 0, .int (xs (I0 + 3))] 699 (by decide) ⟨lw_int _, ⟨⟨_, rfl, by decide, by decide⟩, ⟨lw_int _, trivial⟩⟩⟩ hh
    refine ⟨h2, i2, fun n r hr => ⟨n1 + (n2 + (n + 1 + 1) + 1 + 5 + 1 + 1 + 5 + 5 + 1 + 1) + 1 + 5 + 1 + 1 + 5 + 5 + 1, ?_⟩⟩
    refine ag_al (m := 1) (a := 0) (b := 0) rfl hl.2.1 ?_
    refine lj_x (k := 1) 1 (a0 := 0) (b0 := 0) (a1 := 0) (b1 := 0) (a2 := 0) (b2 := 0) (a3 := 0) (b3 := 0) (a4 := 0) (b4 := 0) hl hi rfl (by omega) hL rfl rfl rfl rfl rfl ?_
    refine lj_x (k := 2) 2 (a0 := 0) (b0 := 0) (a1 := 0) (b1 := 0) (a2 := 0) (b2 := 0) (a3 := 0) (b3 := 0) (a4 := 0) (b4 := 0) hl hi rfl (by omega) hL rfl rfl rfl rfl rfl ?_
    refine ag_eq1 (o := 7) (a := 1202) (b := 0) rfl hz (ag_ic (m := 0) (v := 0) (a := 0) (b := 0) rfl rfl ?_)
    refine lj_x (k := 3) 3 (a0 := 0) (b0 := 0) (a1 := 0) (b1 := 0) (a2 := 0) (b2 := 0) (a3 := 0) (b3 := 0) (a4 := 0) (b4 := 0) hl hi rfl (by omega) hL rfl rfl rfl rfl rfl ?_
    refine lj_call (p := 1) (vs := [.int (xs (I0 + 1)), .int 0, .int (xs (I0 + 3))]) (w := 155) (a := 170) (b := 3) rfl (by decide) rfl (hI _ hh) (by decide +kernel) (by decide) (by show Nat.ble 4 _ = true; decide +kernel) g1 ?_
    refine lj_pop (a := 0) (b := 0) rfl k1 ?_
    refine ag_al (m := 2) (a := 0) (b := 0) rfl hl.2.2.1 ?_
    refine lj_x (k := 1) 1 (a0 := 0) (b0 := 0) (a1 := 0) (b1 := 0) (a2 := 0) (b2 := 0) (a3 := 0) (b3 := 0) (a4 := 0) (b4 := 0) hl hi rfl (by omega) hL rfl rfl rfl rfl rfl ?_
    refine lj_x (k := 2) 2 (a0 := 0) (b0 := 0) (a1 := 0) (b1 := 0) (a2 := 0) (b2 := 0) (a3 := 0) (b3 := 0) (a4 := 0) (b4 := 0) hl hi rfl (by omega) hL rfl rfl rfl rfl rfl ?_
    refine ag_eq1 (o := 7) (a := 1230) (b := 0) rfl hz (ag_ic (m := 0) (v := 0) (a := 0) (b := 0) rfl rfl ?_)
    refine lj_x (k := 3) 3 (a0 := 0) (b0 := 0) (a1 := 0) (b1 := 0) (a2 := 0) (b2 := 0) (a3 := 0) (b3 := 0) (a4 := 0) (b4 := 0) hl hi rfl (by omega) hL rfl rfl rfl rfl rfl ?_
    refine lj_call (p := 219) (vs := [.int (xs (I0 + 1)), .int 0, .int (xs (I0 + 3))]) (w := 159) (a := 312) (b := 3) rfl (by decide) rfl sh (by decide +kernel) (by decide) (by show Nat.ble 4 _ = true; decide +kernel) g2 ?_
    refine lj_pop (a := 0) (b := 0) rfl k2 ?_
    exact ag_go (o := 579) (a := 1819) (b := 0) rfl hr
  · obtain ⟨n1, r1, h1, n2, r2, h2, g1, sh, g2, i2, k1, k2, e⟩ := P h [.int (xs (I0 + 1)), .int 1, .int (xs (I0 + 3))] 699 (by decide) ⟨lw_int _, ⟨⟨_, rfl, by decide, by decide⟩, ⟨lw_int _, trivial⟩⟩⟩ hh
    refine ⟨h2, i2, fun n r hr => ⟨n1 + (n2 + (n + 1 + 1) + 1 + 5 + 1 + 1 + 1 + 5 + 5 + 1 + 1) + 1 + 5 + 1 + 1 + 1 + 5 + 5 + 1, ?_⟩⟩
    refine ag_al (m := 1) (a := 0) (b := 0) rfl hl.2.1 ?_
    refine lj_x (k := 1) 1 (a0 := 0) (b0 := 0) (a1 := 0) (b1 := 0) (a2 := 0) (b2 := 0) (a3 := 0) (b3 := 0) (a4 := 0) (b4 := 0) hl hi rfl (by omega) hL rfl rfl rfl rfl rfl ?_
    refine lj_x (k := 2) 2 (a0 := 0) (b0 := 0) (a1 := 0) (b1 := 0) (a2 := 0) (b2 := 0) (a3 := 0) (b3 := 0) (a4 := 0) (b4 := 0) hl hi rfl (by omega) hL rfl rfl rfl rfl rfl ?_
    refine ag_eq0 (o := 7) (a := 1202) (b := 0) rfl hz (ag_ic (m := 1) (v := 1) (a := 0) (b := 0) rfl rfl (ag_go (o := 4) (a := 1203) (b := 0) rfl ?_))
    refine lj_x (k := 3) 3 (a0 := 0) (b0 := 0) (a1 := 0) (b1 := 0) (a2 := 0) (b2 := 0) (a3 := 0) (b3 := 0) (a4 := 0) (b4 := 0) hl hi rfl (by omega) hL rfl rfl rfl rfl rfl ?_
    refine lj_call (p := 1) (vs := [.int (xs (I0 + 1)), .int 1, .int (xs (I0 + 3))]) (w := 155) (a := 170) (b := 3) rfl (by decide) rfl (hI _ hh) (by decide +kernel) (by decide) (by show Nat.ble 4 _ = true; decide +kernel) g1 ?_
    refine lj_pop (a := 0) (b := 0) rfl k1 ?_
    refine ag_al (m := 2) (a := 0) (b := 0) rfl hl.2.2.1 ?_
    refine lj_x (k := 1) 1 (a0 := 0) (b0 := 0) (a1 := 0) (b1 := 0) (a2 := 0) (b2 := 0) (a3 := 0) (b3 := 0) (a4 := 0) (b4 := 0) hl hi rfl (by omega) hL rfl rfl rfl rfl rfl ?_
    refine lj_x (k := 2) 2 (a0 := 0) (b0 := 0) (a1 := 0) (b1 := 0) (a2 := 0) (b2 := 0) (a3 := 0) (b3 := 0) (a4 := 0) (b4 := 0) hl hi rfl (by omega) hL rfl rfl rfl rfl rfl ?_
    refine ag_eq0 (o := 7) (a := 1230) (b := 0) rfl hz (ag_ic (m := 1) (v := 1) (a := 0) (b := 0) rfl rfl (ag_go (o := 4) (a := 1231) (b := 0) rfl ?_))
    refine lj_x (k := 3) 3 (a0 := 0) (b0 := 0) (a1 := 0) (b1 := 0) (a2 := 0) (b2 := 0) (a3 := 0) (b3 := 0) (a4 := 0) (b4 := 0) hl hi rfl (by omega) hL rfl rfl rfl rfl rfl ?_
    refine lj_call (p := 219) (vs := [.int (xs (I0 + 1)), .int 1, .int (xs (I0 + 3))]) (w := 159) (a := 312) (b := 3) rfl (by decide) rfl sh (by decide +kernel) (by decide) (by show Nat.ble 4 _ = true; decide +kernel) g2 ?_
    refine lj_pop (a := 0) (b := 0) rfl k2 ?_
    exact ag_go (o := 579) (a := 1819) (b := 0) rfl hr
theorem lw_c33 {I : List am_E → Prop} {L : Nat} {xs : Nat → Int32} (hI : ∀ h, I h → ae_shp h) (P : lw_PL I L xs [(0, 0, (-2147483648), 2147483647), (0, 0, (-2147483648), 2147483647), (0, 0, (-2147483648), 2147483647)] 172 316 0 false) {lw : am_L} {i : Int32} {I0 : Nat} (hl : lw_L lw i) (hi : i.toInt = (I0 : Int)) (hb : I0 + 6 ≤ L) (hL : L ≤ 3072) {h : List am_E} (hh : I h) : ∃ h2, I h2 ∧ ∀ n r, am_go L xs n 700 354 1819 lw [] h2 = some r → ∃ n2, am_go L xs n2 700 354 1243 lw [] h = some r := by
  obtain ⟨n1, r1, h1, n2, r2, h2, g1, sh, g2, i2, k1, k2, e⟩ := P h [.int (xs (I0 + 1)), .int (xs (I0 + 2)), .int (xs (I0 + 3))] 699 (by decide) ⟨lw_int _, ⟨lw_int _, ⟨lw_int _, trivial⟩⟩⟩ hh
  refine ⟨h2, i2, fun n r hr => ⟨n1 + (n2 + (n + 1 + 1) + 1 + 5 + 5 + 5 + 1 + 1) + 1 + 5 + 5 + 5 + 1, ?_⟩⟩
  refine ag_al (m := 1) (a := 0) (b := 0) rfl hl.2.1 ?_
  refine lj_x (k := 1) 1 (a0 := 0) (b0 := 0) (a1 := 0) (b1 := 0) (a2 := 0) (b2 := 0) (a3 := 0) (b3 := 0) (a4 := 0) (b4 := 0) hl hi rfl (by omega) hL rfl rfl rfl rfl rfl ?_
  refine lj_x (k := 2) 2 (a0 := 0) (b0 := 0) (a1 := 0) (b1 := 0) (a2 := 0) (b2 := 0) (a3 := 0) (b3 := 0) (a4 := 0) (b4 := 0) hl hi rfl (by omega) hL rfl rfl rfl rfl rfl ?_
  refine lj_x (k := 3) 3 (a0 := 0) (b0 := 0) (a1 := 0) (b1 := 0) (a2 := 0) (b2 := 0) (a3 := 0) (b3 := 0) (a4 := 0) (b4 := 0) hl hi rfl (by omega) hL rfl rfl rfl rfl rfl ?_
  refine lj_call (p := 1) (vs := [.int (xs (I0 + 1)), .int (xs (I0 + 2)), .int (xs (I0 + 3))]) (w := 160) (a := 172) (b := 3) rfl (by decide) rfl (hI _ hh) (by decide +kernel) (by decide) (by show Nat.ble 4 _ = true; decide +kernel) g1 ?_
  refine lj_pop (a := 0) (b := 0) rfl k1 ?_
  refine ag_al (m := 2) (a := 0) (b := 0) rfl hl.2.2.1 ?_
  refine lj_x (k := 1) 1 (a0 := 0) (b0 := 0) (a1 := 0) (b1 := 0) (a2 := 0) (b2 := 0) (a3 := 0) (b3 := 0) (a4 := 0) (b4 := 0) hl hi rfl (by omega) hL rfl rfl rfl rfl rfl ?_
  refine lj_x (k := 2) 2 (a0 := 0) (b0 := 0) (a1 := 0) (b1 := 0) (a2 := 0) (b2 := 0) (a3 := 0) (b3 := 0) (a4 := 0) (b4 := 0) hl hi rfl (by omega) hL rfl rfl rfl rfl rfl ?_
  refine lj_x (k := 3) 3 (a0 := 0) (b0 := 0) (a1 := 0) (b1 := 0) (a2 := 0) (b2 := 0) (a3 := 0) (b3 := 0) (a4 := 0) (b4 := 0) hl hi rfl (by omega) hL rfl rfl rfl rfl rfl ?_
  refine lj_call (p := 219) (vs := [.int (xs (I0 + 1)), .int (xs (I0 + 2)), .int (xs (I0 + 3))]) (w := 164) (a := 316) (b := 3) rfl (by decide) rfl sh (by decide +kernel) (by decide) (by show Nat.ble 4 _ = true; decide +kernel) g2 ?_
  refine lj_pop (a := 0) (b := 0) rfl k2 ?_
  exact ag_go (o := 536) (a := 1819) (b := 0) rfl hr
theorem lw_c34 {I : List am_E → Prop} {L : Nat} {xs : Nat → Int32} (hI : ∀ h, I h → ae_shp h) (P : lw_PL I L xs [(0, 0, (-2147483648), 2147483647), (0, 0, (-2147483648), 2147483647)] 173 317 0 false) {lw : am_L} {i : Int32} {I0 : Nat} (hl : lw_L lw i) (hi : i.toInt = (I0 : Int)) (hb : I0 + 6 ≤ L) (hL : L ≤ 3072) {h : List am_E} (hh : I h) : ∃ h2, I h2 ∧ ∀ n r, am_go L xs n 700 354 1819 lw [] h2 = some r → ∃ n2, am_go L xs n2 700 354 1286 lw [] h = some r := by
  obtain ⟨n1, r1, h1, n2, r2, h2, g1, sh, g2, i2, k1, k2, e⟩ := P h [.int (xs (I0 + 1)), .int (xs (I0 + 2))] 699 (by decide) ⟨lw_int _, ⟨lw_int _, trivial⟩⟩ hh
  refine ⟨h2, i2, fun n r hr => ⟨n1 + (n2 + (n + 1 + 1) + 1 + 5 + 5 + 1 + 1) + 1 + 5 + 5 + 1, ?_⟩⟩
  refine ag_al (m := 1) (a := 0) (b := 0) rfl hl.2.1 ?_
  refine lj_x (k := 1) 1 (a0 := 0) (b0 := 0) (a1 := 0) (b1 := 0) (a2 := 0) (b2 := 0) (a3 := 0) (b3 := 0) (a4 := 0) (b4 := 0) hl hi rfl (by omega) hL rfl rfl rfl rfl rfl ?_
  refine lj_x (k := 2) 2 (a0 := 0) (b0 := 0) (a1 := 0) (b1 := 0) (a2 := 0) (b2 := 0) (a3 := 0) (b3 := 0) (a4 := 0) (b4 := 0) hl hi rfl (by omega) hL rfl rfl rfl rfl rfl ?_
  refine lj_call (p := 1) (vs := [.int (xs (I0 + 1)), .int (xs (I0 + 2))]) (w := 165) (a := 173) (b := 2) rfl (by decide) rfl (hI _ hh) (by decide +kernel) (by decide) (by show Nat.ble 3 _ = true; decide +kernel) g1 ?_
  refine lj_pop (a := 0) (b := 0) rfl k1 ?_
  refine ag_al (m := 2) (a := 0) (b := 0) rfl hl.2.2.1 ?_
  refine lj_x (k := 1) 1 (a0 := 0) (b0 := 0) (a1 := 0) (b1 := 0) (a2 := 0) (b2 := 0) (a3 := 0) (b3 := 0) (a4 := 0) (b4 := 0) hl hi rfl (by omega) hL rfl rfl rfl rfl rfl ?_
  refine lj_x (k := 2) 2 (a0 := 0) (b0 := 0) (a1 := 0) (b1 := 0) (a2 := 0) (b2 := 0) (a3 := 0) (b3 := 0) (a4 := 0) (b4 := 0) hl hi rfl (by omega) hL rfl rfl rfl rfl rfl ?_
  refine lj_call (p := 219) (vs := [.int (xs (I0 + 1)), .int (xs (I0 + 2))]) (w := 168) (a := 317) (b := 2) rfl (by decide) rfl sh (by decide +kernel) (by decide) (by show Nat.ble 3 _ = true; decide +kernel) g2 ?_
  refine lj_pop (a := 0) (b := 0) rfl k2 ?_
  exact ag_go (o := 503) (a := 1819) (b := 0) rfl hr
theorem lw_c35 {I : List am_E → Prop} {L : Nat} {xs : Nat → Int32} (hI : ∀ h, I h → ae_shp h) (P : lw_PL I L xs [] 174 318 0 false) {lw : am_L} {i : Int32} {I0 : Nat} (hl : lw_L lw i) (hi : i.toInt = (I0 : Int)) (hb : I0 + 6 ≤ L) (hL : L ≤ 3072) {h : List am_E} (hh : I h) : ∃ h2, I h2 ∧ ∀ n r, am_go L xs n 700 354 1819 lw [] h2 = some r → ∃ n2, am_go L xs n2 700 354 1319 lw [] h = some r := by
  obtain ⟨n1, r1, h1, n2, r2, h2, g1, sh, g2, i2, k1, k2, e⟩ := P h [] 699 (by decide) trivial hh
  refine ⟨h2, i2, fun n r hr => ⟨n1 + (n2 + (n + 1 + 1) + 1 + 1 + 1) + 1 + 1, ?_⟩⟩
  refine ag_al (m := 1) (a := 0) (b := 0) rfl hl.2.1 ?_
  refine lj_call (p := 1) (vs := []) (w := 169) (a := 174) (b := 0) rfl (by decide) rfl (hI _ hh) (by decide +kernel) (by decide) (by show Nat.ble 1 _ = true; decide +kernel) g1 ?_
  refine lj_pop (a := 0) (b := 0) rfl k1 ?_
  refine ag_al (m := 2) (a := 0) (b := 0) rfl hl.2.2.1 ?_
  refine lj_call (p := 219) (vs := []) (w := 172) (a := 318) (b := 0) rfl (by decide) rfl sh (by decide +kernel) (by decide) (by show Nat.ble 1 _ = true; decide +kernel) g2 ?_
  refine lj_pop (a := 0) (b := 0) rfl k2 ?_
  exact ag_go (o := 490) (a := 1819) (b := 0) rfl hr
theorem lw_c36 {I : List am_E → Prop} {L : Nat} {xs : Nat → Int32} (hI : ∀ h, I h → ae_shp h) (P : lw_PL I L xs [(0, 0, (-2147483648), 2147483647), (0, 0, (-2147483648), 2147483647)] 175 319 0 false) {lw : am_L} {i : Int32} {I0 : Nat} (hl : lw_L lw i) (hi : i.toInt = (I0 : Int)) (hb : I0 + 6 ≤ L) (hL : L ≤ 3072) {h : List am_E} (hh : I h) : ∃ h2, I h2 ∧ ∀ n r, am_go L xs n 700 354 1819 lw [] h2 = some r → ∃ n2, am_go L xs n2 700 354 1332 lw [] h = some r := by
  obtain ⟨n1, r1, h1, n2, r2, h2, g1, sh, g2, i2, k1, k2, e⟩ := P h [.int (xs (I0 + 1)), .int (xs (I0 + 2))] 699 (by decide) ⟨lw_int _, ⟨lw_int _, trivial⟩⟩ hh
  refine ⟨h2, i2, fun n r hr => ⟨n1 + (n2 + (n + 1 + 1) + 1 + 5 + 5 + 1 + 1) + 1 + 5 + 5 + 1, ?_⟩⟩
  refine ag_al (m := 1) (a := 0) (b := 0) rfl hl.2.1 ?_
  refine lj_x (k := 1) 1 (a0 := 0) (b0 := 0) (a1 := 0) (b1 := 0) (a2 := 0) (b2 := 0) (a3 := 0) (b3 := 0) (a4 := 0) (b4 := 0) hl hi rfl (by omega) hL rfl rfl rfl rfl rfl ?_
  refine lj_x (k := 2) 2 (a0 := 0) (b0 := 0) (a1 := 0) (b1 := 0) (a2 := 0) (b2 := 0) (a3 := 0) (b3 := 0) (a4 := 0) (b4 := 0) hl hi rfl (by omega) hL rfl rfl rfl rfl rfl ?_
  refine lj_call (p := 1) (vs := [.int (xs (I0 + 1)), .int (xs (I0 + 2))]) (w := 173) (a := 175) (b := 2) rfl (by decide) rfl (hI _ hh) (by decide +kernel) (by decide) (by show Nat.ble 3 _ = true; decide +kernel) g1 ?_
  refine lj_pop (a := 0) (b := 0) rfl k1 ?_
  refine ag_al (m := 2) (a := 0) (b := 0) rfl hl.2.2.1 ?_
  refine lj_x (k := 1) 1 (a0 := 0) (b0 := 0) (a1 := 0) (b1 := 0) (a2 := 0) (b2 := 0) (a3 := 0) (b3 := 0) (a4 := 0) (b4 := 0) hl hi rfl (by omega) hL rfl rfl rfl rfl rfl ?_
  refine lj_x (k := 2) 2 (a0 := 0) (b0 := 0) (a1 := 0) (b1 := 0) (a2 := 0) (b2 := 0) (a3 := 0) (b3 := 0) (a4 := 0) (b4 := 0) hl hi rfl (by omega) hL rfl rfl rfl rfl rfl ?_
  refine lj_call (p := 219) (vs := [.int (xs (I0 + 1)), .int (xs (I0 + 2))]) (w := 176) (a := 319) (b := 2) rfl (by decide) rfl sh (by decide +kernel) (by decide) (by show Nat.ble 3 _ = true; decide +kernel) g2 ?_
  refine lj_pop (a := 0) (b := 0) rfl k2 ?_
  exact ag_go (o := 457) (a := 1819) (b := 0) rfl hr
theorem lw_c37 {I : List am_E → Prop} {L : Nat} {xs : Nat → Int32} (hI : ∀ h, I h → ae_shp h) (P : lw_PL I L xs [(0, 0, (-2147483648), 2147483647)] 176 321 0 false) {lw : am_L} {i : Int32} {I0 : Nat} (hl : lw_L lw i) (hi : i.toInt = (I0 : Int)) (hb : I0 + 6 ≤ L) (hL : L ≤ 3072) {h : List am_E} (hh : I h) : ∃ h2, I h2 ∧ ∀ n r, am_go L xs n 700 354 1819 lw [] h2 = some r → ∃ n2, am_go L xs n2 700 354 1365 lw [] h = some r := by
  obtain ⟨n1, r1, h1, n2, r2, h2, g1, sh, g2, i2, k1, k2, e⟩ := P h [.int (xs (I0 + 1))] 699 (by decide) ⟨lw_int _, trivial⟩ hh
  refine ⟨h2, i2, fun n r hr => ⟨n1 + (n2 + (n + 1 + 1) + 1 + 5 + 1 + 1) + 1 + 5 + 1, ?_⟩⟩
  refine ag_al (m := 1) (a := 0) (b := 0) rfl hl.2.1 ?_
  refine lj_x (k := 1) 1 (a0 := 0) (b0 := 0) (a1 := 0) (b1 := 0) (a2 := 0) (b2 := 0) (a3 := 0) (b3 := 0) (a4 := 0) (b4 := 0) hl hi rfl (by omega) hL rfl rfl rfl rfl rfl ?_
  refine lj_call (p := 1) (vs := [.int (xs (I0 + 1))]) (w := 177) (a := 176) (b := 1) rfl (by decide) rfl (hI _ hh) (by decide +kernel) (by decide) (by show Nat.ble 2 _ = true; decide +kernel) g1 ?_
  refine lj_pop (a := 0) (b := 0) rfl k1 ?_
  refine ag_al (m := 2) (a := 0) (b := 0) rfl hl.2.2.1 ?_
  refine lj_x (k := 1) 1 (a0 := 0) (b0 := 0) (a1 := 0) (b1 := 0) (a2 := 0) (b2 := 0) (a3 := 0) (b3 := 0) (a4 := 0) (b4 := 0) hl hi rfl (by omega) hL rfl rfl rfl rfl rfl ?_
  refine lj_call (p := 219) (vs := [.int (xs (I0 + 1))]) (w := 180) (a := 321) (b := 1) rfl (by decide) rfl sh (by decide +kernel) (by decide) (by show Nat.ble 2 _ = true; decide +kernel) g2 ?_
  refine lj_pop (a := 0) (b := 0) rfl k2 ?_
  exact ag_go (o := 434) (a := 1819) (b := 0) rfl hr
theorem lw_c38 {I : List am_E → Prop} {L : Nat} {xs : Nat → Int32} (hI : ∀ h, I h → ae_shp h) (P : lw_PL I L xs [(0, 0, (-2147483648), 2147483647)] 177 323 0 false) {lw : am_L} {i : Int32} {I0 : Nat} (hl : lw_L lw i) (hi : i.toInt = (I0 : Int)) (hb : I0 + 6 ≤ L) (hL : L ≤ 3072) {h : List am_E} (hh : I h) : ∃ h2, I h2 ∧ ∀ n r, am_go L xs n 700 354 1819 lw [] h2 = some r → ∃ n2, am_go L xs n2 700 354 1388 lw [] h = some r := by
  obtain ⟨n1, r1, h1, n2, r2, h2, g1, sh, g2, i2, k1, k2, e⟩ := P h [.int (xs (I0 + 1))] 699 (by decide) ⟨lw_int _, trivial⟩ hh
  refine ⟨h2, i2, fun n r hr => ⟨n1 + (n2 + (n + 1 + 1) + 1 + 5 + 1 + 1) + 1 + 5 + 1, ?_⟩⟩
  refine ag_al (m := 1) (a := 0) (b := 0) rfl hl.2.1 ?_
  refine lj_x (k := 1) 1 (a0 := 0) (b0 := 0) (a1 := 0) (b1 := 0) (a2 := 0) (b2 := 0) (a3 := 0) (b3 := 0) (a4 := 0) (b4 := 0) hl hi rfl (by omega) hL rfl rfl rfl rfl rfl ?_
  refine lj_call (p := 1) (vs := [.int (xs (I0 + 1))]) (w := 181) (a := 177) (b := 1) rfl (by decide) rfl (hI _ hh) (by decide +kernel) (by decide) (by show Nat.ble 2 _ = true; decide +kernel) g1 ?_
  refine lj_pop (a := 0) (b := 0) rfl k1 ?_
  refine ag_al (m := 2) (a := 0) (b := 0) rfl hl.2.2.1 ?_
  refine lj_x (k := 1) 1 (a0 := 0) (b0 := 0) (a1 := 0) (b1 := 0) (a2 := 0) (b2 := 0) (a3 := 0) (b3 := 0) (a4 := 0) (b4 := 0) hl hi rfl (by omega) hL rfl rfl rfl rfl rfl ?_
  refine lj_call (p := 219) (vs := [.int (xs (I0 + 1))]) (w := 184) (a := 323) (b := 1) rfl (by decide) rfl sh (by decide +kernel) (by decide) (by show Nat.ble 2 _ = true; decide +kernel) g2 ?_
  refine lj_pop (a := 0) (b := 0) rfl k2 ?_
  exact ag_go (o := 411) (a := 1819) (b := 0) rfl hr
theorem lw_c39 {I : List am_E → Prop} {L : Nat} {xs : Nat → Int32} (hI : ∀ h, I h → ae_shp h) (P : lw_PL I L xs [(0, 0, (-2147483648), 2147483647)] 178 324 0 false) {lw : am_L} {i : Int32} {I0 : Nat} (hl : lw_L lw i) (hi : i.toInt = (I0 : Int)) (hb : I0 + 6 ≤ L) (hL : L ≤ 3072) {h : List am_E} (hh : I h) : ∃ h2, I h2 ∧ ∀ n r, am_go L xs n 700 354 1819 lw [] h2 = some r → ∃ n2, am_go L xs n2 700 354 1411 lw [] h = some r := by
  obtain ⟨n1, r1, h1, n2, r2, h2, g1, sh, g2, i2, k1, k2, e⟩ := P h [.int (xs (I0 + 1))] 699 (by decide) ⟨lw_int _, trivial⟩ hh
  refine ⟨h2, i2, fun n r hr => ⟨n1 + (n2 + (n + 1 + 1) + 1 + 5 + 1 + 1) + 1 + 5 + 1, ?_⟩⟩
  refine ag_al (m := 1) (a := 0) (b := 0) rfl hl.2.1 ?_
  refine lj_x (k := 1) 1 (a0 := 0) (b0 := 0) (a1 := 0) (b1 := 0) (a2 := 0) (b2 := 0) (a3 := 0) (b3 := 0) (a4 := 0) (b4 := 0) hl hi rfl (by omega) hL rfl rfl rfl rfl rfl ?_
  refine lj_call (p := 1) (vs := [.int (xs (I0 + 1))]) (w := 185) (a := 178) (b := 1) rfl (by decide) rfl (hI _ hh) (by decide +kernel) (by decide) (by show Nat.ble 2 _ = true; decide +kernel) g1 ?_
  refine lj_pop (a := 0) (b := 0) rfl k1 ?_
  refine ag_al (m := 2) (a := 0) (b := 0) rfl hl.2.2.1 ?_
  refine lj_x (k := 1) 1 (a0 := 0) (b0 := 0) (a1 := 0) (b1 := 0) (a2 := 0) (b2 := 0) (a3 := 0) (b3 := 0) (a4 := 0) (b4 := 0) hl hi rfl (by omega) hL rfl rfl rfl rfl rfl ?_
  refine lj_call (p := 219) (vs := [.int (xs (I0 + 1))]) (w := 188) (a := 324) (b := 1) rfl (by decide) rfl sh (by decide +kernel) (by decide) (by show Nat.ble 2 _ = true; decide +kernel) g2 ?_
  refine lj_pop (a := 0) (b := 0) rfl k2 ?_
  exact ag_go (o := 388) (a := 1819) (b := 0) rfl hr
theorem lw_c40 {I : List am_E → Prop} {L : Nat} {xs : Nat → Int32} (hI : ∀ h, I h → ae_shp h) (P : lw_PL I L xs [(0, 0, (-2147483648), 2147483647)] 179 325 0 false) {lw : am_L} {i : Int32} {I0 : Nat} (hl : lw_L lw i) (hi : i.toInt = (I0 : Int)) (hb : I0 + 6 ≤ L) (hL : L ≤ 3072) {h : List am_E} (hh : I h) : ∃ h2, I h2 ∧ ∀ n r, am_go L xs n 700 354 1819 lw [] h2 = some r → ∃ n2, am_go L xs n2 700 354 1434 lw [] h = some r := by
  obtain ⟨n1, r1, h1, n2, r2, h2, g1, sh, g2, i2, k1, k2, e⟩ := P h [.int (xs (I0 + 1))] 699 (by decide) ⟨lw_int _, trivial⟩ hh
  refine ⟨h2, i2, fun n r hr => ⟨n1 + (n2 + (n + 1 + 1) + 1 + 5 + 1 + 1) + 1 + 5 + 1, ?_⟩⟩
  refine ag_al (m := 1) (a := 0) (b := 0) rfl hl.2.1 ?_
  refine lj_x (k := 1) 1 (a0 := 0) (b0 := 0) (a1 := 0) (b1 := 0) (a2 := 0) (b2 := 0) (a3 := 0) (b3 := 0) (a4 := 0) (b4 := 0) hl hi rfl (by omega) hL rfl rfl rfl rfl rfl ?_
  refine lj_call (p := 1) (vs := [.int (xs (I0 + 1))]) (w := 189) (a := 179) (b := 1) rfl (by decide) rfl (hI _ hh) (by decide +kernel) (by decide) (by show Nat.ble 2 _ = true; decide +kernel) g1 ?_
  refine lj_pop (a := 0) (b := 0) rfl k1 ?_
  refine ag_al (m := 2) (a := 0) (b := 0) rfl hl.2.2.1 ?_
  refine lj_x (k := 1) 1 (a0 := 0) (b0 := 0) (a1 := 0) (b1 := 0) (a2 := 0) (b2 := 0) (a3 := 0) (b3 := 0) (a4 := 0) (b4 := 0) hl hi rfl (by omega) hL rfl rfl rfl rfl rfl ?_
  refine lj_call (p := 219) (vs := [.int (xs (I0 + 1))]) (w := 192) (a := 325) (b := 1) rfl (by decide) rfl sh (by decide +kernel) (by decide) (by show Nat.ble 2 _ = true; decide +kernel) g2 ?_
  refine lj_pop (a := 0) (b := 0) rfl k2 ?_
  exact ag_go (o := 365) (a := 1819) (b := 0) rfl hr
theorem lw_c41 {I : List am_E → Prop} {L : Nat} {xs : Nat → Int32} (hI : ∀ h, I h → ae_shp h) (P : lw_PL I L xs [(0, 0, (-2147483648), 2147483647), (0, 0, (-2147483648), 2147483647)] 180 326 0 false) {lw : am_L} {i : Int32} {I0 : Nat} (hl : lw_L lw i) (hi : i.toInt = (I0 : Int)) (hb : I0 + 6 ≤ L) (hL : L ≤ 3072) {h : List am_E} (hh : I h) : ∃ h2, I h2 ∧ ∀ n r, am_go L xs n 700 354 1819 lw [] h2 = some r → ∃ n2, am_go L xs n2 700 354 1457 lw [] h = some r := by
  obtain ⟨n1, r1, h1, n2, r2, h2, g1, sh, g2, i2, k1, k2, e⟩ := P h [.int (xs (I0 + 1)), .int (xs (I0 + 2))] 699 (by decide) ⟨lw_int _, ⟨lw_int _, trivial⟩⟩ hh
  refine ⟨h2, i2, fun n r hr => ⟨n1 + (n2 + (n + 1 + 1) + 1 + 5 + 5 + 1 + 1) + 1 + 5 + 5 + 1, ?_⟩⟩
  refine ag_al (m := 1) (a := 0) (b := 0) rfl hl.2.1 ?_
  refine lj_x (k := 1) 1 (a0 := 0) (b0 := 0) (a1 := 0) (b1 := 0) (a2 := 0) (b2 := 0) (a3 := 0) (b3 := 0) (a4 := 0) (b4 := 0) hl hi rfl (by omega) hL rfl rfl rfl rfl rfl ?_
  refine lj_x (k := 2) 2 (a0 := 0) (b0 := 0) (a1 := 0) (b1 := 0) (a2 := 0) (b2 := 0) (a3 := 0) (b3 := 0) (a4 := 0) (b4 := 0) hl hi rfl (by omega) hL rfl rfl rfl rfl rfl ?_
  refine lj_call (p := 1) (vs := [.int (xs (I0 + 1)), .int (xs (I0 + 2))]) (w := 193) (a := 180) (b := 2) rfl (by decide) rfl (hI _ hh) (by decide +kernel) (by decide) (by show Nat.ble 3 _ = true; decide +kernel) g1 ?_
  refine lj_pop (a := 0) (b := 0) rfl k1 ?_
  refine ag_al (m := 2) (a := 0) (b := 0) rfl hl.2.2.1 ?_
  refine lj_x (k := 1) 1 (a0 := 0) (b0 := 0) (a1 := 0) (b1 := 0) (a2 := 0) (b2 := 0) (a3 := 0) (b3 := 0) (a4 := 0) (b4 := 0) hl hi rfl (by omega) hL rfl rfl rfl rfl rfl ?_
  refine lj_x (k := 2) 2 (a0 := 0) (b0 := 0) (a1 := 0) (b1 := 0) (a2 := 0) (b2 := 0) (a3 := 0) (b3 := 0) (a4 := 0) (b4 := 0) hl hi rfl (by omega) hL rfl rfl rfl rfl rfl ?_
  refine lj_call (p := 219) (vs := [.int (xs (I0 + 1)), .int (xs (I0 + 2))]) (w := 196) (a := 326) (b := 2) rfl (by decide) rfl sh (by decide +kernel) (by decide) (by show Nat.ble 3 _ = true; decide +kernel) g2 ?_
  refine lj_pop (a := 0) (b := 0) rfl k2 ?_
  exact ag_go (o := 332) (a := 1819) (b := 0) rfl hr
theorem lw_c42 {I : List am_E → Prop} {L : Nat} {xs : Nat → Int32} (hI : ∀ h, I h → ae_shp h) (P : lw_PL I L xs [] 181 327 0 false) {lw : am_L} {i : Int32} {I0 : Nat} (hl : lw_L lw i) (hi : i.toInt = (I0 : Int)) (hb : I0 + 6 ≤ L) (hL : L ≤ 3072) {h : List am_E} (hh : I h) : ∃ h2, I h2 ∧ ∀ n r, am_go L xs n 700 354 1819 lw [] h2 = some r → ∃ n2, am_go L xs n2 700 354 1490 lw [] h = some r := by
  obtain ⟨n1, r1, h1, n2, r2, h2, g1, sh, g2, i2, k1, k2, e⟩ := P h [] 699 (by decide) trivial hh
  refine ⟨h2, i2, fun n r hr => ⟨n1 + (n2 + (n + 1 + 1) + 1 + 1 + 1) + 1 + 1, ?_⟩⟩
  refine ag_al (m := 1) (a := 0) (b := 0) rfl hl.2.1 ?_
  refine lj_call (p := 1) (vs := []) (w := 197) (a := 181) (b := 0) rfl (by decide) rfl (hI _ hh) (by decide +kernel) (by decide) (by show Nat.ble 1 _ = true; decide +kernel) g1 ?_
  refine lj_pop (a := 0) (b := 0) rfl k1 ?_
  refine ag_al (m := 2) (a := 0) (b := 0) rfl hl.2.2.1 ?_
  refine lj_call (p := 219) (vs := []) (w := 200) (a := 327) (b := 0) rfl (by decide) rfl sh (by decide +kernel) (by decide) (by show Nat.ble 1 _ = true; decide +kernel) g2 ?_
  refine lj_pop (a := 0) (b := 0) rfl k2 ?_
  exact ag_go (o := 319) (a := 1819) (b := 0) rfl hr
theorem lw_c43 {I : List am_E → Prop} {L : Nat} {xs : Nat → Int32} (hI : ∀ h, I h → ae_shp h) (P : lw_PL I L xs [] 182 328 0 false) {lw : am_L} {i : Int32} {I0 : Nat} (hl : lw_L lw i) (hi : i.toInt = (I0 : Int)) (hb : I0 + 6 ≤ L) (hL : L ≤ 3072) {h : List am_E} (hh : I h) : ∃ h2, I h2 ∧ ∀ n r, am_go L xs n 700 354 1819 lw [] h2 = some r → ∃ n2, am_go L xs n2 700 354 1503 lw [] h = some r := by
  obtain ⟨n1, r1, h1, n2, r2, h2, g1, sh, g2, i2, k1, k2, e⟩ := P h [] 699 (by decide) trivial hh
  refine ⟨h2, i2, fun n r hr => ⟨n1 + (n2 + (n + 1 + 1) + 1 + 1 + 1) + 1 + 1, ?_⟩⟩
  refine ag_al (m := 1) (a := 0) (b := 0) rfl hl.2.1 ?_
  refine lj_call (p := 1) (vs := []) (w := 201) (a := 182) (b := 0) rfl (by decide) rfl (hI _ hh) (by decide +kernel) (by decide) (by show Nat.ble 1 _ = true; decide +kernel) g1 ?_
  refine lj_pop (a := 0) (b := 0) rfl k1 ?_
  refine ag_al (m := 2) (a := 0) (b := 0) rfl hl.2.2.1 ?_
  refine lj_call (p := 219) (vs := []) (w := 204) (a := 328) (b := 0) rfl (by decide) rfl sh (by decide +kernel) (by decide) (by show Nat.ble 1 _ = true; decide +kernel) g2 ?_
  refine lj_pop (a := 0) (b := 0) rfl k2 ?_
  exact ag_go (o := 306) (a := 1819) (b := 0) rfl hr
theorem lw_c44 {I : List am_E → Prop} {L : Nat} {xs : Nat → Int32} (hI : ∀ h, I h → ae_shp h) (P : lw_PL I L xs [(0, 0, (-2147483648), 2147483647), (0, 0, (-2147483648), 2147483647)] 184 332 0 false) {lw : am_L} {i : Int32} {I0 : Nat} (hl : lw_L lw i) (hi : i.toInt = (I0 : Int)) (hb : I0 + 6 ≤ L) (hL : L ≤ 3072) {h : List am_E} (hh : I h) : ∃ h2, I h2 ∧ ∀ n r, am_go L xs n 700 354 1819 lw [] h2 = some r → ∃ n2, am_go L xs n2 700 354 1516 lw [] h = some r := by
  obtain ⟨n1, r1, h1, n2, r2, h2, g1, sh, g2, i2, k1, k2, e⟩ := P h [.int (xs (I0 + 1)), .int (xs (I0 + 2))] 699 (by decide) ⟨lw_int _, ⟨lw_int _, trivial⟩⟩ hh
  refine ⟨h2, i2, fun n r hr => ⟨n1 + (n2 + (n + 1 + 1) + 1 + 5 + 5 + 1 + 1) + 1 + 5 + 5 + 1, ?_⟩⟩
  refine ag_al (m := 1) (a := 0) (b := 0) rfl hl.2.1 ?_
  refine lj_x (k := 1) 1 (a0 := 0) (b0 := 0) (a1 := 0) (b1 := 0) (a2 := 0) (b2 := 0) (a3 := 0) (b3 := 0) (a4 := 0) (b4 := 0) hl hi rfl (by omega) hL rfl rfl rfl rfl rfl ?_
  refine lj_x (k := 2) 2 (a0 := 0) (b0 := 0) (a1 := 0) (b1 := 0) (a2 := 0) (b2 := 0) (a3 := 0) (b3 := 0) (a4 := 0) (b4 := 0) hl hi rfl (by omega) hL rfl rfl rfl rfl rfl ?_
  refine lj_call (p := 1) (vs := [.int (xs (I0 + 1)), .int (xs (I0 + 2))]) (w := 205) (a := 184) (b := 2) rfl (by decide) rfl (hI _ hh) (by decide +kernel) (by decide) (by show Nat.ble 3 _ = true; decide +kernel) g1 ?_
  refine lj_pop (a := 0) (b := 0) rfl k1 ?_
  refine ag_al (m := 2) (a := 0) (b := 0) rfl hl.2.2.1 ?_
  refine lj_x (k := 1) 1 (a0 := 0) (b0 := 0) (a1 := 0) (b1 := 0) (a2 := 0) (b2 := 0) (a3 := 0) (b3 := 0) (a4 := 0) (b4 := 0) hl hi rfl (by omega) hL rfl rfl rfl rfl rfl ?_
  refine lj_x (k := 2) 2 (a0 := 0) (b0 := 0) (a1 := 0) (b1 := 0) (a2 := 0) (b2 := 0) (a3 := 0) (b3 := 0) (a4 := 0) (b4 := 0) hl hi rfl (by omega) hL rfl rfl rfl rfl rfl ?_
  refine lj_call (p := 219) (vs := [.int (xs (I0 + 1)), .int (xs (I0 + 2))]) (w := 208) (a := 332) (b := 2) rfl (by decide) rfl sh (by decide +kernel) (by decide) (by show Nat.ble 3 _ = true; decide +kernel) g2 ?_
  refine lj_pop (a := 0) (b := 0) rfl k2 ?_
  exact ag_go (o := 273) (a := 1819) (b := 0) rfl hr
theorem lw_c45 {I : List am_E → Prop} {L : Nat} {xs : Nat → Int32} (hI : ∀ h, I h → ae_shp h) (P : lw_PL I L xs [(0, 0, (-2147483648), 2147483647), (0, 0, (-2147483648), 2147483647)] 185 333 0 false) {lw : am_L} {i : Int32} {I0 : Nat} (hl : lw_L lw i) (hi : i.toInt = (I0 : Int)) (hb : I0 + 6 ≤ L) (hL : L ≤ 3072) {h : List am_E} (hh : I h) : ∃ h2, I h2 ∧ ∀ n r, am_go L xs n 700 354 1819 lw [] h2 = some r → ∃ n2, am_go L xs n2 700 354 1549 lw [] h = some r := by
  obtain ⟨n1, r1, h1, n2, r2, h2, g1, sh, g2, i2, k1, k2, e⟩ := P h [.int (xs (I0 + 1)), .int (xs (I0 + 2))] 699 (by decide) ⟨lw_int _, ⟨lw_int _, trivial⟩⟩ hh
  refine ⟨h2, i2, fun n r hr => ⟨n1 + (n2 + (n + 1 + 1) + 1 + 5 + 5 + 1 + 1) + 1 + 5 + 5 + 1, ?_⟩⟩
  refine ag_al (m := 1) (a := 0) (b := 0) rfl hl.2.1 ?_
  refine lj_x (k := 1) 1 (a0 := 0) (b0 := 0) (a1 := 0) (b1 := 0) (a2 := 0) (b2 := 0) (a3 := 0) (b3 := 0) (a4 := 0) (b4 := 0) hl hi rfl (by omega) hL rfl rfl rfl rfl rfl ?_
  refine lj_x (k := 2) 2 (a0 := 0) (b0 := 0) (a1 := 0) (b1 := 0) (a2 := 0) (b2 := 0) (a3 := 0) (b3 := 0) (a4 := 0) (b4 := 0) hl hi rfl (by omega) hL rfl rfl rfl rfl rfl ?_
  refine lj_call (p := 1) (vs := [.int (xs (I0 + 1)), .int (xs (I0 + 2))]) (w := 209) (a := 185) (b := 2) rfl (by decide) rfl (hI _ hh) (by decide +kernel) (by decide) (by show Nat.ble 3 _ = true; decide +kernel) g1 ?_
  refine lj_pop (a := 0) (b := 0) rfl k1 ?_
  refine ag_al (m := 2) (a := 0) (b := 0) rfl hl.2.2.1 ?_
  refine lj_x (k := 1) 1 (a0 := 0) (b0 := 0) (a1 := 0) (b1 := 0) (a2 := 0) (b2 := 0) (a3 := 0) (b3 := 0) (a4 := 0) (b4 := 0) hl hi rfl (by omega) hL rfl rfl rfl rfl rfl ?_
  refine lj_x (k := 2) 2 (a0 := 0) (b0 := 0) (a1 := 0) (b1 := 0) (a2 := 0) (b2 := 0) (a3 := 0) (b3 := 0) (a4 := 0) (b4 := 0) hl hi rfl (by omega) hL rfl rfl rfl rfl rfl ?_
  refine lj_call (p := 219) (vs := [.int (xs (I0 + 1)), .int (xs (I0 + 2))]) (w := 212) (a := 333) (b := 2) rfl (by decide) rfl sh (by decide +kernel) (by decide) (by show Nat.ble 3 _ = true; decide +kernel) g2 ?_
  refine lj_pop (a := 0) (b := 0) rfl k2 ?_
  exact ag_go (o := 240) (a := 1819) (b := 0) rfl hr
theorem lw_c46 {I : List am_E → Prop} {L : Nat} {xs : Nat → Int32} (hI : ∀ h, I h → ae_shp h) (P : lw_PL I L xs [(0, 0, (-2147483648), 2147483647), (0, 0, (-2147483648), 2147483647)] 186 334 1 false) {lw : am_L} {i : Int32} {I0 : Nat} (hl : lw_L lw i) (hi : i.toInt = (I0 : Int)) (hb : I0 + 6 ≤ L) (hL : L ≤ 3072) {h : List am_E} (hh : I h) : ∃ h2, I h2 ∧ ∀ n r, am_go L xs n 700 354 1819 lw [] h2 = some r → ∃ n2, am_go L xs n2 700 354 1582 lw [] h = some r := by
  obtain ⟨n1, r1, h1, n2, r2, h2, g1, sh, g2, i2, k1, k2, e⟩ := P h [.int (xs (I0 + 1)), .int (xs (I0 + 2))] 699 (by decide) ⟨lw_int _, ⟨lw_int _, trivial⟩⟩ hh
  refine ⟨h2, i2, fun n r hr => ⟨n1 + (n2 + (n + 1 + 1) + 1 + 5 + 5 + 1 + 1) + 1 + 5 + 5 + 1, ?_⟩⟩
  refine ag_al (m := 1) (a := 0) (b := 0) rfl hl.2.1 ?_
  refine lj_x (k := 1) 1 (a0 := 0) (b0 := 0) (a1 := 0) (b1 := 0) (a2 := 0) (b2 := 0) (a3 := 0) (b3 := 0) (a4 := 0) (b4 := 0) hl hi rfl (by omega) hL rfl rfl rfl rfl rfl ?_
  refine lj_x (k := 2) 2 (a0 := 0) (b0 := 0) (a1 := 0) (b1 := 0) (a2 := 0) (b2 := 0) (a3 := 0) (b3 := 0) (a4 := 0) (b4 := 0) hl hi rfl (by omega) hL rfl rfl rfl rfl rfl ?_
  refine lj_call (p := 1) (vs := [.int (xs (I0 + 1)), .int (xs (I0 + 2))]) (w := 213) (a := 186) (b := 2) rfl (by decide) rfl (hI _ hh) (by decide +kernel) (by decide) (by show Nat.ble 3 _ = true; decide +kernel) g1 ?_
  refine lj_pop2 (a := 0) (b := 0) rfl k1 ?_
  refine ag_al (m := 2) (a := 0) (b := 0) rfl hl.2.2.1 ?_
  refine lj_x (k := 1) 1 (a0 := 0) (b0 := 0) (a1 := 0) (b1 := 0) (a2 := 0) (b2 := 0) (a3 := 0) (b3 := 0) (a4 := 0) (b4 := 0) hl hi rfl (by omega) hL rfl rfl rfl rfl rfl ?_
  refine lj_x (k := 2) 2 (a0 := 0) (b0 := 0) (a1 := 0) (b1 := 0) (a2 := 0) (b2 := 0) (a3 := 0) (b3 := 0) (a4 := 0) (b4 := 0) hl hi rfl (by omega) hL rfl rfl rfl rfl rfl ?_
  refine lj_call (p := 219) (vs := [.int (xs (I0 + 1)), .int (xs (I0 + 2))]) (w := 216) (a := 334) (b := 2) rfl (by decide) rfl sh (by decide +kernel) (by decide) (by show Nat.ble 3 _ = true; decide +kernel) g2 ?_
  refine lj_pop2 (a := 0) (b := 0) rfl k2 ?_
  exact ag_go (o := 207) (a := 1819) (b := 0) rfl hr
theorem lw_c47 {I : List am_E → Prop} {L : Nat} {xs : Nat → Int32} (hI : ∀ h, I h → ae_shp h) (P : lw_PL I L xs [(0, 0, (-2147483648), 2147483647)] 187 335 0 false) {lw : am_L} {i : Int32} {I0 : Nat} (hl : lw_L lw i) (hi : i.toInt = (I0 : Int)) (hb : I0 + 6 ≤ L) (hL : L ≤ 3072) {h : List am_E} (hh : I h) : ∃ h2, I h2 ∧ ∀ n r, am_go L xs n 700 354 1819 lw [] h2 = some r → ∃ n2, am_go L xs n2 700 354 1615 lw [] h = some r := by
  obtain ⟨n1, r1, h1, n2, r2, h2, g1, sh, g2, i2, k1, k2, e⟩ := P h [.int (xs (I0 + 1))] 699 (by decide) ⟨lw_int _, trivial⟩ hh
  refine ⟨h2, i2, fun n r hr => ⟨n1 + (n2 + (n + 1 + 1) + 1 + 5 + 1 + 1) + 1 + 5 + 1, ?_⟩⟩
  refine ag_al (m := 1) (a := 0) (b := 0) rfl hl.2.1 ?_
  refine lj_x (k := 1) 1 (a0 := 0) (b0 := 0) (a1 := 0) (b1 := 0) (a2 := 0) (b2 := 0) (a3 := 0) (b3 := 0) (a4 := 0) (b4 := 0) hl hi rfl (by omega) hL rfl rfl rfl rfl rfl ?_
  refine lj_call (p := 1) (vs := [.int (xs (I0 + 1))]) (w := 217) (a := 187) (b := 1) rfl (by decide) rfl (hI _ hh) (by decide +kernel) (by decide) (by show Nat.ble 2 _ = true; decide +kernel) g1 ?_
  refine lj_pop (a := 0) (b := 0) rfl k1 ?_
  refine ag_al (m := 2) (a := 0) (b := 0) rfl hl.2.2.1 ?_
  refine lj_x (k := 1) 1 (a0 := 0) (b0 := 0) (a1 := 0) (b1 := 0) (a2 := 0) (b2 := 0) (a3 := 0) (b3 := 0) (a4 := 0) (b4 := 0) hl hi rfl (by omega) hL rfl rfl rfl rfl rfl ?_
  refine lj_call (p := 219) (vs := [.int (xs (I0 + 1))]) (w := 220) (a := 335) (b := 1) rfl (by decide) rfl sh (by decide +kernel) (by decide) (by show Nat.ble 2 _ = true; decide +kernel) g2 ?_
  refine lj_pop (a := 0) (b := 0) rfl k2 ?_
  exact ag_go (o := 184) (a := 1819) (b := 0) rfl hr
theorem lw_c48 {I : List am_E → Prop} {L : Nat} {xs : Nat → Int32} (hI : ∀ h, I h → ae_shp h) (P : lw_PL I L xs [(0, 0, (-2147483648), 2147483647)] 188 336 0 false) {lw : am_L} {i : Int32} {I0 : Nat} (hl : lw_L lw i) (hi : i.toInt = (I0 : Int)) (hb : I0 + 6 ≤ L) (hL : L ≤ 3072) {h : List am_E} (hh : I h) : ∃ h2, I h2 ∧ ∀ n r, am_go L xs n 700 354 1819 lw [] h2 = some r → ∃ n2, am_go L xs n2 700 354 1638 lw [] h = some r := by
  obtain ⟨n1, r1, h1, n2, r2, h2, g1, sh, g2, i2, k1, k2, e⟩ := P h [.int (xs (I0 + 1))] 699 (by decide) ⟨lw_int _, trivial⟩ hh
  refine ⟨h2, i2, fun n r hr => ⟨n1 + (n2 + (n + 1 + 1) + 1 + 5 + 1 + 1) + 1 + 5 + 1, ?_⟩⟩
  refine ag_al (m := 1) (a := 0) (b := 0) rfl hl.2.1 ?_
  refine lj_x (k := 1) 1 (a0 := 0) (b0 := 0) (a1 := 0) (b1 := 0) (a2 := 0) (b2 := 0) (a3 := 0) (b3 := 0) (a4 := 0) (b4 := 0) hl hi rfl (by omega) hL rfl rfl rfl rfl rfl ?_
  refine lj_call (p := 1) (vs := [.int (xs (I0 + 1))]) (w := 221) (a := 188) (b := 1) rfl (by decide) rfl (hI _ hh) (by decide +kernel) (by decide) (by show Nat.ble 2 _ = true; decide +kernel) g1 ?_
  refine lj_pop (a := 0) (b := 0) rfl k1 ?_
  refine ag_al (m := 2) (a := 0) (b := 0) rfl hl.2.2.1 ?_
  refine lj_x (k := 1) 1 (a0 := 0) (b0 := 0) (a1 := 0) (b1 := 0) (a2 := 0) (b2 := 0) (a3 := 0) (b3 := 0) (a4 := 0) (b4 := 0) hl hi rfl (by omega) hL rfl rfl rfl rfl rfl ?_
  refine lj_call (p := 219) (vs := [.int (xs (I0 + 1))]) (w := 224) (a := 336) (b := 1) rfl (by decide) rfl sh (by decide +kernel) (by decide) (by show Nat.ble 2 _ = true; decide +kernel) g2 ?_
  refine lj_pop (a := 0) (b := 0) rfl k2 ?_
  exact ag_go (o := 161) (a := 1819) (b := 0) rfl hr
theorem lw_c49 {I : List am_E → Prop} {L : Nat} {xs : Nat → Int32} (hI : ∀ h, I h → ae_shp h) (P : lw_PL I L xs [(0, 0, (-2147483648), 2147483647), (0, 0, (-2147483648), 2147483647), (0, 0, (-2147483648), 2147483647), (0, 0, (-2147483648), 2147483647)] 190 338 0 false) {lw : am_L} {i : Int32} {I0 : Nat} (hl : lw_L lw i) (hi : i.toInt = (I0 : Int)) (hb : I0 + 6 ≤ L) (hL : L ≤ 3072) {h : List am_E} (hh : I h) : ∃ h2, I h2 ∧ ∀ n r, am_go L xs n 700 354 1819 lw [] h2 = some r → ∃ n2, am_go L xs n2 700 354 1661 lw [] h = some r := by
  obtain ⟨n1, r1, h1, n2, r2, h2, g1, sh, g2, i2, k1, k2, e⟩ := P h [.int (xs (I0 + 1)), .int (xs (I0 + 2)), .int (xs (I0 + 3)), .int (xs (I0 + 4))] 699 (by decide) ⟨lw_int _, ⟨lw_int _, ⟨lw_int _, ⟨lw_int _, trivial⟩⟩⟩⟩ hh
  refine ⟨h2, i2, fun n r hr => ⟨n1 + (n2 + (n + 1 + 1) + 1 + 5 + 5 + 5 + 5 + 1 + 1) + 1 + 5 + 5 + 5 + 5 + 1, ?_⟩⟩
  refine ag_al (m := 1) (a := 0) (b := 0) rfl hl.2.1 ?_
  refine lj_x (k := 1) 1 (a0 := 0) (b0 := 0) (a1 := 0) (b1 := 0) (a2 := 0) (b2 := 0) (a3 := 0) (b3 := 0) (a4 := 0) (b4 := 0) hl hi rfl (by omega) hL rfl rfl rfl rfl rfl ?_
  refine lj_x (k := 2) 2 (a0 := 0) (b0 := 0) (a1 := 0) (b1 := 0) (a2 := 0) (b2 := 0) (a3 := 0) (b3 := 0) (a4 := 0) (b4 := 0) hl hi rfl (by omega) hL rfl rfl rfl rfl rfl ?_
  refine lj_x (k := 3) 3 (a0 := 0) (b0 := 0) (a1 := 0) (b1 := 0) (a2 := 0) (b2 := 0) (a3 := 0) (b3 := 0) (a4 := 0) (b4 := 0) hl hi rfl (by omega) hL rfl rfl rfl rfl rfl ?_
  refine lj_x (k := 4) 4 (a0 := 0) (b0 := 0) (a1 := 0) (b1 := 0) (a2 := 0) (b2 := 0) (a3 := 0) (b3 := 0) (a4 := 0) (b4 := 0) hl hi rfl (by omega) hL rfl rfl rfl rfl rfl ?_
  refine lj_call (p := 1) (vs := [.int (xs (I0 + 1)), .int (xs (I0 + 2)), .int (xs (I0 + 3)), .int (xs (I0 + 4))]) (w := 225) (a := 190) (b := 4) rfl (by decide) rfl (hI _ hh) (by decide +kernel) (by decide) (by show Nat.ble 5 _ = true; decide +kernel) g1 ?_
  refine lj_pop (a := 0) (b := 0) rfl k1 ?_
  refine ag_al (m := 2) (a := 0) (b := 0) rfl hl.2.2.1 ?_
  refine lj_x (k := 1) 1 (a0 := 0) (b0 := 0) (a1 := 0) (b1 := 0) (a2 := 0) (b2 := 0) (a3 := 0) (b3 := 0) (a4 := 0) (b4 := 0) hl hi rfl (by omega) hL rfl rfl rfl rfl rfl ?_
  refine lj_x (k := 2) 2 (a0 := 0) (b0 := 0) (a1 := 0) (b1 := 0) (a2 := 0) (b2 := 0) (a3 := 0) (b3 := 0) (a4 := 0) (b4 := 0) hl hi rfl (by omega) hL rfl rfl rfl rfl rfl ?_
  refine lj_x (k := 3) 3 (a0 := 0) (b0 := 0) (a1 := 0) (b1 := 0) (a2 := 0) (b2 := 0) (a3 := 0) (b3 := 0) (a4 := 0) (b4 := 0) hl hi rfl (by omega) hL rfl rfl rfl rfl rfl ?_
  refine lj_x (k := 4) 4 (a0 := 0) (b0 := 0) (a1 := 0) (b1 := 0) (a2 := 0) (b2 := 0) (a3 := 0) (b3 := 0) (a4 := 0) (b4 := 0) hl hi rfl (by omega) hL rfl rfl rfl rfl rfl ?_
  refine lj_call (p := 219) (vs := [.int (xs (I0 + 1)), .int (xs (I0 + 2)), .int (xs (I0 + 3)), .int (xs (I0 + 4))]) (w := 229) (a := 338) (b := 4) rfl (by decide) rfl sh (by decide +kernel) (by decide) (by show Nat.ble 5 _ = true; decide +kernel) g2 ?_
  refine lj_pop (a := 0) (b := 0) rfl k2 ?_
  exact ag_go (o := 108) (a := 1819) (b := 0) rfl hr
theorem lw_c50 {I : List am_E → Prop} {L : Nat} {xs : Nat → Int32} (hI : ∀ h, I h → ae_shp h) (P : lw_PL I L xs [(0, 0, (-2147483648), 2147483647)] 191 347 0 false) {lw : am_L} {i : Int32} {I0 : Nat} (hl : lw_L lw i) (hi : i.toInt = (I0 : Int)) (hb : I0 + 6 ≤ L) (hL : L ≤ 3072) {h : List am_E} (hh : I h) : ∃ h2, I h2 ∧ ∀ n r, am_go L xs n 700 354 1819 lw [] h2 = some r → ∃ n2, am_go L xs n2 700 354 1714 lw [] h = some r := by
  obtain ⟨n1, r1, h1, n2, r2, h2, g1, sh, g2, i2, k1, k2, e⟩ := P h [.int (xs (I0 + 1))] 699 (by decide) ⟨lw_int _, trivial⟩ hh
  refine ⟨h2, i2, fun n r hr => ⟨n1 + (n2 + (n + 1 + 1) + 1 + 5 + 1 + 1) + 1 + 5 + 1, ?_⟩⟩
  refine ag_al (m := 1) (a := 0) (b := 0) rfl hl.2.1 ?_
  refine lj_x (k := 1) 1 (a0 := 0) (b0 := 0) (a1 := 0) (b1 := 0) (a2 := 0) (b2 := 0) (a3 := 0) (b3 := 0) (a4 := 0) (b4 := 0) hl hi rfl (by omega) hL rfl rfl rfl rfl rfl ?_
  refine lj_call (p := 1) (vs := [.int (xs (I0 + 1))]) (w := 230) (a := 191) (b := 1) rfl (by decide) rfl (hI _ hh) (by decide +kernel) (by decide) (by show Nat.ble 2 _ = true; decide +kernel) g1 ?_
  refine lj_pop (a := 0) (b := 0) rfl k1 ?_
  refine ag_al (m := 2) (a := 0) (b := 0) rfl hl.2.2.1 ?_
  refine lj_x (k := 1) 1 (a0 := 0) (b0 := 0) (a1 := 0) (b1 := 0) (a2 := 0) (b2 := 0) (a3 := 0) (b3 := 0) (a4 := 0) (b4 := 0) hl hi rfl (by omega) hL rfl rfl rfl rfl rfl ?_
  refine lj_call (p := 219) (vs := [.int (xs (I0 + 1))]) (w := 233) (a := 347) (b := 1) rfl (by decide) rfl sh (by decide +kernel) (by decide) (by show Nat.ble 2 _ = true; decide +kernel) g2 ?_
  refine lj_pop (a := 0) (b := 0) rfl k2 ?_
  exact ag_go (o := 85) (a := 1819) (b := 0) rfl hr
theorem lw_c51 {I : List am_E → Prop} {L : Nat} {xs : Nat → Int32} (hI : ∀ h, I h → ae_shp h) (P : lw_PL I L xs [(0, 0, (-2147483648), 2147483647)] 192 348 0 false) {lw : am_L} {i : Int32} {I0 : Nat} (hl : lw_L lw i) (hi : i.toInt = (I0 : Int)) (hb : I0 + 6 ≤ L) (hL : L ≤ 3072) {h : List am_E} (hh : I h) : ∃ h2, I h2 ∧ ∀ n r, am_go L xs n 700 354 1819 lw [] h2 = some r → ∃ n2, am_go L xs n2 700 354 1737 lw [] h = some r := by
  obtain ⟨n1, r1, h1, n2, r2, h2, g1, sh, g2, i2, k1, k2, e⟩ := P h [.int (xs (I0 + 1))] 699 (by decide) ⟨lw_int _, trivial⟩ hh
  refine ⟨h2, i2, fun n r hr => ⟨n1 + (n2 + (n + 1 + 1) + 1 + 5 + 1 + 1) + 1 + 5 + 1, ?_⟩⟩
  refine ag_al (m := 1) (a := 0) (b := 0) rfl hl.2.1 ?_
  refine lj_x (k := 1) 1 (a0 := 0) (b0 := 0) (a1 := 0) (b1 := 0) (a2 := 0) (b2 := 0) (a3 := 0) (b3 := 0) (a4 := 0) (b4 := 0) hl hi rfl (by omega) hL rfl rfl rfl rfl rfl ?_
  refine lj_call (p := 1) (vs := [.int (xs (I0 + 1))]) (w := 234) (a := 192) (b := 1) rfl (by decide) rfl (hI _ hh) (by decide +kernel) (by decide) (by show Nat.ble 2 _ = true; decide +kernel) g1 ?_
  refine lj_pop (a := 0) (b := 0) rfl k1 ?_
  refine ag_al (m := 2) (a := 0) (b := 0) rfl hl.2.2.1 ?_
  refine lj_x (k := 1) 1 (a0 := 0) (b0 := 0) (a1 := 0) (b1 := 0) (a2 := 0) (b2 := 0) (a3 := 0) (b3 := 0) (a4 := 0) (b4 := 0) hl hi rfl (by omega) hL rfl rfl rfl rfl rfl ?_
  refine lj_call (p := 219) (vs := [.int (xs (I0 + 1))]) (w := 237) (a := 348) (b := 1) rfl (by decide) rfl sh (by decide +kernel) (by decide) (by show Nat.ble 2 _ = true; decide +kernel) g2 ?_
  refine lj_pop (a := 0) (b := 0) rfl k2 ?_
  exact ag_go (o := 62) (a := 1819) (b := 0) rfl hr
theorem lw_c52 {I : List am_E → Prop} {L : Nat} {xs : Nat → Int32} (hI : ∀ h, I h → ae_shp h) (P : lw_PL I L xs [(0, 0, (-2147483648), 2147483647), (0, 0, (-2147483648), 2147483647)] 193 349 0 false) {lw : am_L} {i : Int32} {I0 : Nat} (hl : lw_L lw i) (hi : i.toInt = (I0 : Int)) (hb : I0 + 6 ≤ L) (hL : L ≤ 3072) {h : List am_E} (hh : I h) : ∃ h2, I h2 ∧ ∀ n r, am_go L xs n 700 354 1819 lw [] h2 = some r → ∃ n2, am_go L xs n2 700 354 1760 lw [] h = some r := by
  obtain ⟨n1, r1, h1, n2, r2, h2, g1, sh, g2, i2, k1, k2, e⟩ := P h [.int (xs (I0 + 1)), .int (xs (I0 + 2))] 699 (by decide) ⟨lw_int _, ⟨lw_int _, trivial⟩⟩ hh
  refine ⟨h2, i2, fun n r hr => ⟨n1 + (n2 + (n + 1 + 1) + 1 + 5 + 5 + 1 + 1) + 1 + 5 + 5 + 1, ?_⟩⟩
  refine ag_al (m := 1) (a := 0) (b := 0) rfl hl.2.1 ?_
  refine lj_x (k := 1) 1 (a0 := 0) (b0 := 0) (a1 := 0) (b1 := 0) (a2 := 0) (b2 := 0) (a3 := 0) (b3 := 0) (a4 := 0) (b4 := 0) hl hi rfl (by omega) hL rfl rfl rfl rfl rfl ?_
  refine lj_x (k := 2) 2 (a0 := 0) (b0 := 0) (a1 := 0) (b1 := 0) (a2 := 0) (b2 := 0) (a3 := 0) (b3 := 0) (a4 := 0) (b4 := 0) hl hi rfl (by omega) hL rfl rfl rfl rfl rfl ?_
  refine lj_call (p := 1) (vs := [.int (xs (I0 + 1)), .int (xs (I0 + 2))]) (w := 238) (a := 193) (b := 2) rfl (by decide) rfl (hI _ hh) (by decide +kernel) (by decide) (by show Nat.ble 3 _ = true; decide +kernel) g1 ?_
  refine lj_pop (a := 0) (b := 0) rfl k1 ?_
  refine ag_al (m := 2) (a := 0) (b := 0) rfl hl.2.2.1 ?_
  refine lj_x (k := 1) 1 (a0 := 0) (b0 := 0) (a1 := 0) (b1 := 0) (a2 := 0) (b2 := 0) (a3 := 0) (b3 := 0) (a4 := 0) (b4 := 0) hl hi rfl (by omega) hL rfl rfl rfl rfl rfl ?_
  refine lj_x (k := 2) 2 (a0 := 0) (b0 := 0) (a1 := 0) (b1 := 0) (a2 := 0) (b2 := 0) (a3 := 0) (b3 := 0) (a4 := 0) (b4 := 0) hl hi rfl (by omega) hL rfl rfl rfl rfl rfl ?_
  refine lj_call (p := 219) (vs := [.int (xs (I0 + 1)), .int (xs (I0 + 2))]) (w := 241) (a := 349) (b := 2) rfl (by decide) rfl sh (by decide +kernel) (by decide) (by show Nat.ble 3 _ = true; decide +kernel) g2 ?_
  refine lj_pop (a := 0) (b := 0) rfl k2 ?_
  exact ag_go (o := 29) (a := 1819) (b := 0) rfl hr
theorem lw_c53 {I : List am_E → Prop} {L : Nat} {xs : Nat → Int32} (hI : ∀ h, I h → ae_shp h) (P : lw_PL I L xs [] 194 351 0 false) {lw : am_L} {i : Int32} {I0 : Nat} (hl : lw_L lw i) (hi : i.toInt = (I0 : Int)) (hb : I0 + 6 ≤ L) (hL : L ≤ 3072) {h : List am_E} (hh : I h) : ∃ h2, I h2 ∧ ∀ n r, am_go L xs n 700 354 1819 lw [] h2 = some r → ∃ n2, am_go L xs n2 700 354 1793 lw [] h = some r := by
  obtain ⟨n1, r1, h1, n2, r2, h2, g1, sh, g2, i2, k1, k2, e⟩ := P h [] 699 (by decide) trivial hh
  refine ⟨h2, i2, fun n r hr => ⟨n1 + (n2 + (n + 1 + 1) + 1 + 1 + 1) + 1 + 1, ?_⟩⟩
  refine ag_al (m := 1) (a := 0) (b := 0) rfl hl.2.1 ?_
  refine lj_call (p := 1) (vs := []) (w := 242) (a := 194) (b := 0) rfl (by decide) rfl (hI _ hh) (by decide +kernel) (by decide) (by show Nat.ble 1 _ = true; decide +kernel) g1 ?_
  refine lj_pop (a := 0) (b := 0) rfl k1 ?_
  refine ag_al (m := 2) (a := 0) (b := 0) rfl hl.2.2.1 ?_
  refine lj_call (p := 219) (vs := []) (w := 245) (a := 351) (b := 0) rfl (by decide) rfl sh (by decide +kernel) (by decide) (by show Nat.ble 1 _ = true; decide +kernel) g2 ?_
  refine lj_pop (a := 0) (b := 0) rfl k2 ?_
  exact ag_go (o := 16) (a := 1819) (b := 0) rfl hr
theorem lw_c54 {I : List am_E → Prop} {L : Nat} {xs : Nat → Int32} (hI : ∀ h, I h → ae_shp h) (P : lw_PL I L xs [] 195 352 0 false) {lw : am_L} {i : Int32} {I0 : Nat} (hl : lw_L lw i) (hi : i.toInt = (I0 : Int)) (hb : I0 + 6 ≤ L) (hL : L ≤ 3072) {h : List am_E} (hh : I h) : ∃ h2, I h2 ∧ ∀ n r, am_go L xs n 700 354 1819 lw [] h2 = some r → ∃ n2, am_go L xs n2 700 354 1806 lw [] h = some r := by
  obtain ⟨n1, r1, h1, n2, r2, h2, g1, sh, g2, i2, k1, k2, e⟩ := P h [] 699 (by decide) trivial hh
  refine ⟨h2, i2, fun n r hr => ⟨n1 + (n2 + (n + 1 + 1) + 1 + 1 + 1) + 1 + 1, ?_⟩⟩
  refine ag_al (m := 1) (a := 0) (b := 0) rfl hl.2.1 ?_
  refine lj_call (p := 1) (vs := []) (w := 246) (a := 195) (b := 0) rfl (by decide) rfl (hI _ hh) (by decide +kernel) (by decide) (by show Nat.ble 1 _ = true; decide +kernel) g1 ?_
  refine lj_pop (a := 0) (b := 0) rfl k1 ?_
  refine ag_al (m := 2) (a := 0) (b := 0) rfl hl.2.2.1 ?_
  refine lj_call (p := 219) (vs := []) (w := 249) (a := 352) (b := 0) rfl (by decide) rfl sh (by decide +kernel) (by decide) (by show Nat.ble 1 _ = true; decide +kernel) g2 ?_
  refine lj_pop (a := 0) (b := 0) rfl k2 ?_
  exact ag_go (o := 3) (a := 1819) (b := 0) rfl hr
/-- all pairs of calls -/
noncomputable def lw_all (I : List am_E → Prop) (L : Nat) (xs : Nat → Int32) : Prop :=
  lw_PL I L xs [] 136 197 0 false ∧
  lw_PL I L xs [] 137 198 1 false ∧
  lw_PL I L xs [] 138 199 1 false ∧
  lw_PL I L xs [(0, 0, (-2147483648), 2147483647), (0, 0, (-2147483648), 2147483647), (0, 0, (-2147483648), 2147483647)] 139 205 0 false ∧
  lw_PL I L xs [(0, 0, (-2147483648), 2147483647), (0, 0, (-2147483648), 2147483647), (1, 0, (-9223372036854775808), 9223372036854775807)] 141 208 0 false ∧
  lw_PL I L xs [(0, 0, (-2147483648), 2147483647), (0, 0, (-2147483648), 2147483647)] 142 209 1 false ∧
  lw_PL I L xs [(0, 0, (-2147483648), 2147483647), (0, 0, (-2147483648), 2147483647), (0, 0, (-2147483648), 2147483647), (0, 0, (-2147483648), 2147483647), (0, 0, (-2147483648), 2147483647)] 143 210 0 false ∧
  lw_PL I L xs [(0, 0, (-2147483648), 2147483647), (0, 0, (-2147483648), 2147483647), (0, 0, (-2147483648), 2147483647), (0, 0, (-2147483648), 2147483647), (0, 0, (-2147483648), 2147483647)] 144 248 0 false ∧
  lw_PL I L xs [(0, 0, (-2147483648), 2147483647)] 145 261 0 false ∧
  lw_PL I L xs [(0, 0, (-2147483648), 2147483647)] 146 265 0 false ∧
  lw_PL I L xs [(0, 0, (-2147483648), 2147483647)] 147 252 0 false ∧
  lw_PL I L xs [(0, 0, (-2147483648), 2147483647)] 148 274 0 true ∧
  lw_PL I L xs [(0, 0, (-2147483648), 2147483647), (0, 0, (-2147483648), 2147483647)] 149 275 0 false ∧
  lw_PL I L xs [(0, 0, (-2147483648), 2147483647), (0, 0, (-2147483648), 2147483647)] 150 276 0 false ∧
  lw_PL I L xs [(0, 0, (-2147483648), 2147483647), (0, 0, (-2147483648), 2147483647)] 151 277 0 false ∧
  lw_PL I L xs [(0, 0, (-2147483648), 2147483647), (0, 0, (-2147483648), 2147483647)] 152 278 0 false ∧
  lw_PL I L xs [(0, 0, (-2147483648), 2147483647), (0, 0, (-2147483648), 2147483647)] 153 279 0 false ∧
  lw_PL I L xs [] 154 280 0 false ∧
  lw_PL I L xs [] 155 281 0 false ∧
  lw_PL I L xs [] 156 282 0 false ∧
  lw_PL I L xs [(0, 0, (-2147483648), 2147483647), (0, 0, (-2147483648), 2147483647)] 157 283 0 false ∧
  lw_PL I L xs [(0, 0, (-2147483648), 2147483647)] 158 294 0 false ∧
  lw_PL I L xs [] 159 295 0 false ∧
  lw_PL I L xs [(0, 0, (-2147483648), 2147483647)] 160 296 0 false ∧
  lw_PL I L xs [(0, 0, (-2147483648), 2147483647)] 162 298 0 false ∧
  lw_PL I L xs [(0, 0, (-2147483648), 2147483647)] 163 299 0 false ∧
  lw_PL I L xs [(0, 0, (-2147483648), 2147483647), (0, 0, (-2147483648), 2147483647)] 164 300 0 false ∧
  lw_PL I L xs [(0, 0, (-2147483648), 2147483647), (0, 0, (-2147483648), 2147483647)] 165 301 0 false ∧
  lw_PL I L xs [(0, 0, (-2147483648), 2147483647), (0, 0, (-2147483648), 2147483647)] 166 302 0 false ∧
  lw_PL I L xs [] 167 305 0 false ∧
  lw_PL I L xs [(0, 0, (-2147483648), 2147483647)] 168 308 0 false ∧
  lw_PL I L xs [(0, 0, (-2147483648), 2147483647), (0, 0, (-2147483648), 2147483647)] 169 311 0 false ∧
  lw_PL I L xs [(0, 0, (-2147483648), 2147483647), (0, 0, 0, 1), (0, 0, (-2147483648), 2147483647)] 170 312 0 false ∧
  lw_PL I L xs [(0, 0, (-2147483648), 2147483647), (0, 0, (-2147483648), 2147483647), (0, 0, (-2147483648), 2147483647)] 172 316 0 false ∧
  lw_PL I L xs [(0, 0, (-2147483648), 2147483647), (0, 0, (-2147483648), 2147483647)] 173 317 0 false ∧
  lw_PL I L xs [] 174 318 0 false ∧
  lw_PL I L xs [(0, 0, (-2147483648), 2147483647), (0, 0, (-2147483648), 2147483647)] 175 319 0 false ∧
  lw_PL I L xs [(0, 0, (-2147483648), 2147483647)] 176 321 0 false ∧
  lw_PL I L xs [(0, 0, (-2147483648), 2147483647)] 177 323 0 false ∧
  lw_PL I L xs [(0, 0, (-2147483648), 2147483647)] 178 324 0 false ∧
  lw_PL I L xs [(0, 0, (-2147483648), 2147483647)] 179 325 0 false ∧
  lw_PL I L xs [(0, 0, (-2147483648), 2147483647), (0, 0, (-2147483648), 2147483647)] 180 326 0 false ∧
  lw_PL I L xs [] 181 327 0 false ∧
  lw_PL I L xs [] 182 328 0 false ∧
  lw_PL I L xs [(0, 0, (-2147483648), 2147483647), (0, 0, (-2147483648), 2147483647)] 184 332 0 false ∧
  lw_PL I L xs [(0, 0, (-2147483648), 2147483647), (0, 0, (-2147483648), 2147483647)] 185 333 0 false ∧
  lw_PL I L xs [(0, 0, (-2147483648), 2147483647), (0, 0, (-2147483648), 2147483647)] 186 334 1 false ∧
  lw_PL I L xs [(0, 0, (-2147483648), 2147483647)] 187 335 0 false ∧
  lw_PL I L xs [(0, 0, (-2147483648), 2147483647)] 188 336 0 false ∧
  lw_PL I L xs [(0, 0, (-2147483648), 2147483647), (0, 0, (-2147483648), 2147483647), (0, 0, (-2147483648), 2147483647), (0, 0, (-2147483648), 2147483647)] 190 338 0 false ∧
  lw_PL I L xs [(0, 0, (-2147483648), 2147483647)] 191 347 0 false ∧
  lw_PL I L xs [(0, 0, (-2147483648), 2147483647)] 192 348 0 false ∧
  lw_PL I L xs [(0, 0, (-2147483648), 2147483647), (0, 0, (-2147483648), 2147483647)] 193 349 0 false ∧
  lw_PL I L xs [] 194 351 0 false ∧
  lw_PL I L xs [] 195 352 0 false
theorem lw_sel {I : List am_E → Prop} {L : Nat} {xs : Nat → Int32} (hI : ∀ h, I h → ae_shp h) (P : lw_all I L xs) {lw : am_L} {i : Int32} {I0 : Nat} (hl : lw_L lw i) (hi : i.toInt = (I0 : Int)) (hb : I0 + 6 ≤ L) (hL : L ≤ 3072) {h : List am_E} (hh : I h) {v : Int32} (c : Nat) (hc : c < 64) (hv : v.toInt = (c : Int)) :
    ∃ h2, I h2 ∧ ∀ n r, am_go L xs n 700 354 1819 lw [] h2 = some r → ∃ n2, am_go L xs n2 700 354 33 lw [.int v] h = some r := by
  obtain ⟨p0, p1, p2, p3, p4, p5, p6, p7, p8, p9, p10, p11, p12, p13, p14, p15, p16, p17, p18, p19, p20, p21, p22, p23, p24, p25, p26, p27, p28, p29, p30, p31, p32, p33, p34, p35, p36, p37, p38, p39, p40, p41, p42, p43, p44, p45, p46, p47, p48, p49, p50, p51, p52, p53, p54⟩ := P
  have sw : ∀ (c : Nat), v.toInt = (c : Int) → ∀ {t : Nat}, (bif decide ((c : Int) < 0) || decide ((54 : Int) < (c : Int)) then am_sw 33 1786 else (#[235, 248, 261, 274, 317, 390, 423, 486, 549, 572, 595, 618, 641, 674, 707, 740, 773, 806, 819, 832, 845, 878, 901, 914, 937, 960, 983, 1016, 1049, 1082, 1095, 1118, 1151, 1210, 1253, 1286, 1299, 1332, 1355, 1378, 1401, 1424, 1457, 1470, 1483, 1516, 1549, 1582, 1605, 1628, 1681, 1704, 1727, 1760, 1773][((c : Int) - 0).toNat]?).bind (am_sw 33)) = some t → (∃ h2, I h2 ∧ ∀ n r, am_go L xs n 700 354 1819 lw [] h2 = some r → ∃ n2, am_go L xs n2 700 354 t lw [] h = some r) → ∃ h2, I h2 ∧ ∀ n r, am_go L xs n 700 354 1819 lw [] h2 = some r → ∃ n2, am_go L xs n2 700 354 33 lw [.int v] h = some r := by
    intro c hv t ht ⟨h2, i2, q⟩
    refine ⟨h2, i2, fun n r hr => ?_⟩
    obtain ⟨n2, g⟩ := q n r hr
    refine ⟨n2 + 1, am_st1 (z := (t, lw, [], none)) (i := .tableswitch 1786 0 54 #[235, 248, 261, 274, 317, 390, 423, 486, 549, 572, 595, 618, 641, 674, 707, 740, 773, 806, 819, 832, 845, 878, 901, 914, 937, 960, 983, 1016, 1049, 1082, 1095, 1118, 1151, 1210, 1253, 1286, 1299, 1332, 1355, 1378, 1401, 1424, 1457, 1470, 1483, 1516, 1549, 1582, 1605, 1628, 1681, 1704, 1727, 1760, 1773]) (a := 0) (b := 235) rfl rfl rfl ?_ rfl g⟩
    show (bif decide (v.toInt < 0) || decide (54 < v.toInt) then am_sw 33 1786 else (#[235, 248, 261, 274, 317, 390, 423, 486, 549, 572, 595, 618, 641, 674, 707, 740, 773, 806, 819, 832, 845, 878, 901, 914, 937, 960, 983, 1016, 1049, 1082, 1095, 1118, 1151, 1210, 1253, 1286, 1299, 1332, 1355, 1378, 1401, 1424, 1457, 1470, 1483, 1516, 1549, 1582, 1605, 1628, 1681, 1704, 1727, 1760, 1773][(v.toInt - 0).toNat]?).bind (am_sw 33)).bind _ = _
    rw [hv, ht]; rfl
  match c, hc, hv with
  | 0, _, hv => exact sw _ hv (t := 268) rfl (lw_c0 hI p0 hl hi hb hL hh)
  | 1, _, hv => exact sw _ hv (t := 281) rfl (lw_c1 hI p1 hl hi hb hL hh)
  | 2, _, hv => exact sw _ hv (t := 294) rfl (lw_c2 hI p2 hl hi hb hL hh)
  | 3, _, hv => exact sw _ hv (t := 307) rfl (lw_c3 hI p3 hl hi hb hL hh)
  | 4, _, hv => exact sw _ hv (t := 350) rfl (lw_c4 hI p4 hl hi hb hL hh)
  | 5, _, hv => exact sw _ hv (t := 423) rfl (lw_c5 hI p5 hl hi hb hL hh)
  | 6, _, hv => exact sw _ hv (t := 456) rfl (lw_c6 hI p6 hl hi hb hL hh)
  | 7, _, hv => exact sw _ hv (t := 519) rfl (lw_c7 hI p7 hl hi hb hL hh)
  | 8, _, hv => exact sw _ hv (t := 582) rfl (lw_c8 hI p8 hl hi hb hL hh)
  | 9, _, hv => exact sw _ hv (t := 605) rfl (lw_c9 hI p9 hl hi hb hL hh)
  | 10, _, hv => exact sw _ hv (t := 628) rfl (lw_c10 hI p10 hl hi hb hL hh)
  | 11, _, hv => exact sw _ hv (t := 651) rfl (lw_c11 hI p11 hl hi hb hL hh)
  | 12, _, hv => exact sw _ hv (t := 674) rfl (lw_c12 hI p12 hl hi hb hL hh)
  | 13, _, hv => exact sw _ hv (t := 707) rfl (lw_c13 hI p13 hl hi hb hL hh)
  | 14, _, hv => exact sw _ hv (t := 740) rfl (lw_c14 hI p14 hl hi hb hL hh)
  | 15, _, hv => exact sw _ hv (t := 773) rfl (lw_c15 hI p15 hl hi hb hL hh)
  | 16, _, hv => exact sw _ hv (t := 806) rfl (lw_c16 hI p16 hl hi hb hL hh)
  | 17, _, hv => exact sw _ hv (t := 839) rfl (lw_c17 hI p17 hl hi hb hL hh)
  | 18, _, hv => exact sw _ hv (t := 852) rfl (lw_c18 hI p18 hl hi hb hL hh)
  | 19, _, hv => exact sw _ hv (t := 865) rfl (lw_c19 hI p19 hl hi hb hL hh)
  | 20, _, hv => exact sw _ hv (t := 878) rfl (lw_c20 hI p20 hl hi hb hL hh)
  | 21, _, hv => exact sw _ hv (t := 911) rfl (lw_c21 hI p21 hl hi hb hL hh)
  | 22, _, hv => exact sw _ hv (t := 934) rfl (lw_c22 hI p22 hl hi hb hL hh)
  | 23, _, hv => exact sw _ hv (t := 947) rfl (lw_c23 hI p23 hl hi hb hL hh)
  | 24, _, hv => exact sw _ hv (t := 970) rfl (lw_c24 hI p24 hl hi hb hL hh)
  | 25, _, hv => exact sw _ hv (t := 993) rfl (lw_c25 hI p25 hl hi hb hL hh)
  | 26, _, hv => exact sw _ hv (t := 1016) rfl (lw_c26 hI p26 hl hi hb hL hh)
  | 27, _, hv => exact sw _ hv (t := 1049) rfl (lw_c27 hI p27 hl hi hb hL hh)
  | 28, _, hv => exact sw _ hv (t := 1082) rfl (lw_c28 hI p28 hl hi hb hL hh)
  | 29, _, hv => exact sw _ hv (t := 1115) rfl (lw_c29 hI p29 hl hi hb hL hh)
  | 30, _, hv => exact sw _ hv (t := 1128) rfl (lw_c30 hI p30 hl hi hb hL hh)
  | 31, _, hv => exact sw _ hv (t := 1151) rfl (lw_c31 hI p31 hl hi hb hL hh)
  | 32, _, hv => exact sw _ hv (t := 1184) rfl (lw_c32 hI p32 hl hi hb hL hh)
  | 33, _, hv => exact sw _ hv (t := 1243) rfl (lw_c33 hI p33 hl hi hb hL hh)
  | 34, _, hv => exact sw _ hv (t := 1286) rfl (lw_c34 hI p34 hl hi hb hL hh)
  | 35, _, hv => exact sw _ hv (t := 1319) rfl (lw_c35 hI p35 hl hi hb hL hh)
  | 36, _, hv => exact sw _ hv (t := 1332) rfl (lw_c36 hI p36 hl hi hb hL hh)
  | 37, _, hv => exact sw _ hv (t := 1365) rfl (lw_c37 hI p37 hl hi hb hL hh)
  | 38, _, hv => exact sw _ hv (t := 1388) rfl (lw_c38 hI p38 hl hi hb hL hh)
  | 39, _, hv => exact sw _ hv (t := 1411) rfl (lw_c39 hI p39 hl hi hb hL hh)
  | 40, _, hv => exact sw _ hv (t := 1434) rfl (lw_c40 hI p40 hl hi hb hL hh)
  | 41, _, hv => exact sw _ hv (t := 1457) rfl (lw_c41 hI p41 hl hi hb hL hh)
  | 42, _, hv => exact sw _ hv (t := 1490) rfl (lw_c42 hI p42 hl hi hb hL hh)
  | 43, _, hv => exact sw _ hv (t := 1503) rfl (lw_c43 hI p43 hl hi hb hL hh)
  | 44, _, hv => exact sw _ hv (t := 1516) rfl (lw_c44 hI p44 hl hi hb hL hh)
  | 45, _, hv => exact sw _ hv (t := 1549) rfl (lw_c45 hI p45 hl hi hb hL hh)
  | 46, _, hv => exact sw _ hv (t := 1582) rfl (lw_c46 hI p46 hl hi hb hL hh)
  | 47, _, hv => exact sw _ hv (t := 1615) rfl (lw_c47 hI p47 hl hi hb hL hh)
  | 48, _, hv => exact sw _ hv (t := 1638) rfl (lw_c48 hI p48 hl hi hb hL hh)
  | 49, _, hv => exact sw _ hv (t := 1661) rfl (lw_c49 hI p49 hl hi hb hL hh)
  | 50, _, hv => exact sw _ hv (t := 1714) rfl (lw_c50 hI p50 hl hi hb hL hh)
  | 51, _, hv => exact sw _ hv (t := 1737) rfl (lw_c51 hI p51 hl hi hb hL hh)
  | 52, _, hv => exact sw _ hv (t := 1760) rfl (lw_c52 hI p52 hl hi hb hL hh)
  | 53, _, hv => exact sw _ hv (t := 1793) rfl (lw_c53 hI p53 hl hi hb hL hh)
  | 54, _, hv => exact sw _ hv (t := 1806) rfl (lw_c54 hI p54 hl hi hb hL hh)
  | c + 55, hc, hv =>
    refine sw _ hv (t := 1819) ?_ ⟨h, hh, fun n r hr => ⟨n, hr⟩⟩
    rw [show (decide (((c + 55 : Nat) : Int) < 0) || decide ((54 : Int) < ((c + 55 : Nat) : Int))) = true by rw [decide_eq_true (show (54 : Int) < ((c + 55 : Nat) : Int) by omega), Bool.or_true]]; rfl
theorem lw_run {I : List am_E → Prop} {L : Nat} {xs : Nat → Int32} (hI : ∀ h, I h → ae_shp h) (P : lw_all I L xs) (hL : L ≤ 3072) : ∀ (N I0 : Nat) (h : List am_E) (lw : am_L) (i : Int32), L + 6 - I0 < N → lw_L lw i → i.toInt = (I0 : Int) → I0 ≤ L + 6 → I h → ∃ n h2, am_go L xs n 700 354 18 lw [] h = some (some (.int 1), h2) ∧ I h2 := by
  intro N
  induction N with
  | zero => intro I0 h lw i hN; omega
  | succ N ih =>
    intro I0 h lw i hN hl hi h6 hh
    have hlen : (Int32.ofNat L - 6).toInt = (L : Int) - 6 := by
      have h1 : (Int32.ofNat L).toInt = (L : Int) := Int32.toInt_ofNat_of_lt (by omega)
      rw [ae_w_sub, h1]
      exact ae_w32_rg (by show -2147483648 ≤ (L : Int) - 6; omega) (by show (L : Int) - 6 ≤ 2147483647; omega)
    by_cases hb : I0 + 6 ≤ L
    · obtain ⟨m1, m2⟩ := ae_and_le (xs I0) 63 (by decide)
      have m2 : (xs I0 &&& 63).toInt ≤ 63 := m2
      obtain ⟨h2, i2, q⟩ := lw_sel hI P hl hi hb hL hh (v := xs I0 &&& 63) (xs I0 &&& 63).toInt.toNat (by omega) (by omega)
      have y3 : (i + Int32.ofInt 6).toInt = ((I0 + 6 : Nat) : Int) := ag_wa hi (by decide) (by omega) (by omega)
      obtain ⟨n, h3, g, i3⟩ := ih (I0 + 6) h2 (am_put1 lw 3 (.int (i + Int32.ofInt 6))) (i + Int32.ofInt 6) (by omega) ⟨ag_lk2 (by decide) (fun _ => rfl) hl.1, ag_lk2 (by decide) (fun _ => rfl) hl.2.1, ag_lk2 (by decide) (fun _ => rfl) hl.2.2.1, ag_lk1⟩ y3 (by omega) i2
      obtain ⟨n2, g2⟩ := q _ _ (ag_inc (m := 3) (k := 6) (a := 0) (b := 0) rfl (by decide +kernel) hl.2.2.2 (ag_go (o := -1804) (a := 18) (b := 0) rfl g))
      refine ⟨n2 + 1 + 1 + 1 + 1 + 1 + 1 + 1 + 1 + 1 + 1 + 1, h3, ?_, i3⟩
      refine ag_il (m := 3) (a := 0) (b := 0) rfl hl.2.2.2 ?_
      refine ag_al (m := 0) (a := 0) (b := 0) rfl hl.1 ?_
      refine am_st1 (z := (21, lw, .int (Int32.ofNat L) :: .int i :: [], none)) (i := .arraylength) (a := 0) (b := 0) rfl rfl rfl rfl rfl ?_
      refine ag_bi (m := 6) (v := 6) (a := 0) (b := 0) rfl rfl ?_
      refine am_st1 (z := (24, lw, .int (Int32.ofNat L - 6) :: .int i :: [], none)) (i := .isub) (a := 0) (b := 0) rfl rfl rfl rfl rfl ?_
      refine lj_gt0 (o := 1801) (a := 1825) (b := 0) rfl (by rw [hlen, hi]; omega) ?_
      refine ag_al (m := 0) (a := 0) (b := 0) rfl hl.1 ?_
      refine ag_il (m := 3) (a := 0) (b := 0) rfl hl.2.2.2 ?_
      refine am_st1 (z := (30, lw, .int (xs I0) :: [], none)) (i := .iaload) (a := 0) (b := 0) rfl rfl rfl ?_ rfl ?_
      · show am_if (am_in i L) (some (29 + 1, lw, Value.int (xs i.toNatClampNeg) :: [], none)) = _
        rw [ae_in_ok (by omega) (by omega), ag_ix hi]; rfl
      refine ag_bi (m := 63) (v := 63) (a := 0) (b := 0) rfl rfl ?_
      exact am_st1 (z := (33, lw, .int (xs I0 &&& 63) :: [], none)) (i := .iand) (a := 0) (b := 0) rfl rfl rfl rfl rfl g2
    · refine ⟨1 + 1 + 1 + 1 + 1 + 1 + 1 + 1, h, ?_, hh⟩
      refine ag_il (m := 3) (a := 0) (b := 0) rfl hl.2.2.2 ?_
      refine ag_al (m := 0) (a := 0) (b := 0) rfl hl.1 ?_
      refine am_st1 (z := (21, lw, .int (Int32.ofNat L) :: .int i :: [], none)) (i := .arraylength) (a := 0) (b := 0) rfl rfl rfl rfl rfl ?_
      refine ag_bi (m := 6) (v := 6) (a := 0) (b := 0) rfl rfl ?_
      refine am_st1 (z := (24, lw, .int (Int32.ofNat L - 6) :: .int i :: [], none)) (i := .isub) (a := 0) (b := 0) rfl rfl rfl rfl rfl ?_
      refine lj_gt1 (o := 1801) (a := 1825) (b := 0) rfl (by rw [hlen, hi]; omega) ?_
      refine ag_ic (m := 1) (v := 1) (a := 0) (b := 0) rfl rfl ?_
      exact am_st0 (i := .ireturn) (a := 0) (b := 0) rfl rfl (by
        show am_if (Nat.beq (am_inf 354).2.2.2 1 || (Nat.beq (am_inf 354).2.2.2 2 && decide ((1 : Int32) &&& 1 = 1))) _ = _
        rw [show (Nat.beq (am_inf 354).2.2.2 1 || (Nat.beq (am_inf 354).2.2.2 2 && decide ((1 : Int32) &&& 1 = 1))) = true by decide +kernel]; rfl)

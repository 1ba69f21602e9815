noncomputable def rm_tyok (ty : FieldType) : Bool := match ty with
  | .int => true
  | .boolean => true
  | .long => true
  | .object _ => true
  | .array _ => true
  | _ => false
theorem rm_tyok_all : (List.range 13).all (fun a => (List.range (am_N a)).all (fun k => rm_tyok (am_ty a k))) = true := by decide +kernel
theorem rm_all_map {xs : Nat → Int32} {f : Nat → rm_V} {g : Nat → Value} : ∀ {l : List Nat}, (∀ k ∈ l, rm_ok xs (f k) (g k)) → rm_all xs (l.map f) (l.map g)
  | [], _ => trivial
  | k :: l, h => ⟨h k List.mem_cons_self, rm_all_map (fun j hj => h j (List.mem_cons_of_mem _ hj))⟩
theorem rm_def_ok {xs : Nat → Int32} {a : Nat} (ha : a < 13) : rm_all xs (rm_def a) (am_def a) := by
  refine rm_all_map (fun k hk => ?_)
  have h1 := List.all_eq_true.mp (List.all_eq_true.mp rm_tyok_all a (List.mem_range.mpr ha)) k hk
  have h1 : rm_tyok (am_ty a k) = true := h1
  show rm_ok xs (rm_dv (am_ty a k)) (defaultValue (am_ty a k))
  generalize am_ty a k = ty at h1 ⊢
  cases ty <;> first | rfl | cases h1
theorem rm_fit_ok {xs : Nat → Int32} {ci k : Nat} {x : rm_V} {v : Value} (o : rm_ok xs x v) (hf : rm_fit ci k x = true) : am_fit ci k v = true := by
  unfold rm_fit at hf
  unfold am_fit
  generalize am_ty ci k = ty at hf ⊢
  have rr : (Nat.beq x.1 5 || Nat.beq x.1 6) = true → (∃ r, v = .ref r) ∨ v = .null := by
    intro hq
    rw [Bool.or_eq_true] at hq
    obtain ⟨t, n, m⟩ := x
    rcases hq with hq | hq
    · obtain rfl : t = 5 := Nat.eq_of_beq_eq_true hq
      exact Or.inl ⟨n, o⟩
    · obtain rfl : t = 6 := Nat.eq_of_beq_eq_true hq
      exact Or.inr o
  cases ty with
  | int => obtain ⟨y, rfl⟩ := rm_ok_I o hf; simp [narrow, fits]
  | long => obtain ⟨y, rfl⟩ := rm_ok_J o hf; simp [narrow, fits]
  | boolean =>
    obtain ⟨t, n, m⟩ := x
    dsimp only at hf
    rw [Bool.and_eq_true] at hf
    obtain rfl : t = 0 := Nat.eq_of_beq_eq_true hf.1
    have h2 := Nat.le_of_ble_eq_true hf.2
    have h3 : v = .int (nI n) := o
    subst h3
    rcases (show n = 0 ∨ n = 1 by omega) with rfl | rfl <;> decide +kernel
  | object C => rcases rr hf with ⟨r, rfl⟩ | rfl <;> simp [narrow, fits]
  | array C => rcases rr hf with ⟨r, rfl⟩ | rfl <;> simp [narrow, fits]
  | _ => cases hf
theorem am_sw_of {pc : Nat} {o : Int} (h : decide (0 ≤ (pc : Int) + o) = true) : am_sw pc o = some (rm_tgt pc o) := by
  unfold am_sw
  rw [h]; rfl
theorem rm_norm_1 {bx : rm_B} {x : rm_V} (h : Nat.beq (rm_norm bx x).1 1 = true) : Nat.beq x.1 1 = true := by
  unfold rm_norm at h
  cases h1 : Nat.beq x.1 1 with
  | true => rfl
  | false =>
    rw [h1] at h
    have h2 : Nat.beq x.1 1 = true := h
    rw [h1] at h2
    exact h2
section RS
variable {L own nL a b pc : Nat} {ini : Bool} {xs : Nat → Int32} {bx : rm_B} {lv : rm_L} {st : List rm_V} {h : List rm_E} {lv' : am_L} {st' : List Value} {h' : List am_E} {outs : List rm_R5}
theorem rs_putfield {n : Nat} (hb : rm_in xs bx) (hl : rm_lvr xs lv lv') (hs : rm_all xs st st') (hh : rm_hp xs h h') (e : rm_simple L own ini nL (.putfield n) a b pc bx lv st h = some outs) : rm_Post L xs own ini nL (.putfield n) a b pc outs lv' st' h' := by
  cases st with
  | nil =>
    have e9 : (none : Option (List rm_R5)) = some outs := e
    cases e9
  | cons v st =>
    cases st' with
    | nil => exact absurd hs id
    | cons vv st' =>
      obtain ⟨o_v, hs⟩ := hs
      cases st with
      | nil =>
        have e9 : (none : Option (List rm_R5)) = some outs := e
        cases e9
      | cons x st =>
        cases st' with
        | nil => exact absurd hs id
        | cons xv st' =>
          obtain ⟨o_x, hs⟩ := hs
          obtain ⟨hq, e⟩ := am_if_eq e
          obtain ⟨t, k, m⟩ := x
          have hr : xv = .ref k := rm_ok_R o_x hq
          subst hr
          obtain ⟨fs, e1, e⟩ := am_bd e
          obtain ⟨hc, e⟩ := am_if_eq e
          obtain ⟨j, gs, g1, g2, g3, g4⟩ := rm_ob_ok hh e1
          have g1 : k = j + 1 := g1
          subst g1
          cases e
          simp only [Bool.and_eq_true] at hc
          obtain ⟨⟨c1, c2⟩, c3⟩ := hc
          have c4 := rm_fit_ok o_v c2
          obtain ⟨f1, f2, f3⟩ := am_app_at (e1 := .inr (a, gs.set b vv)) g2 (by show gs.length = (gs.set b vv).length; rw [List.length_set])
          refine ⟨_, List.mem_singleton.mpr rfl, hb, (pc + 3, lv', st', some (some j, .inr (a, gs.set b vv))), _, ?_, f1, rfl, hl, hs, rm_hp_rset j hh ⟨rfl, rm_all_set b g4 o_v⟩⟩
          show (am_ob h' (j + 1) a).bind _ = _
          rw [g3]
          show am_if (Nat.blt b gs.length && am_fit a b vv && (!(am_fin a b) || (ini && Nat.beq own a))) (some (pc + 3, lv', st', (some (some j, .inr (a, gs.set b vv)) : am_Ef))) = _
          rw [← rm_all_len g4, c1, c4, c3]; rfl

theorem rs_new {n : Nat} (hb : rm_in xs bx) (hl : rm_lvr xs lv lv') (hs : rm_all xs st st') (hh : rm_hp xs h h') (e : rm_simple L own ini nL (.new n) a b pc bx lv st h = some outs) : rm_Post L xs own ini nL (.new n) a b pc outs lv' st' h' := by
  obtain ⟨hc, e⟩ := am_if_eq e
  cases e
  refine ⟨_, List.mem_singleton.mpr rfl, hb, (pc + 3, lv', .ref (h'.length + 1) :: st', some (none, .inr (a, am_def a))), h' ++ [.inr (a, am_def a)], rfl, rfl, rfl, hl, ⟨?_, hs⟩, rm_hp_push (a := .inr (a, rm_def a)) (v := .inr (a, am_def a)) hh ⟨rfl, rm_def_ok (Nat.blt_eq.mp hc)⟩⟩
  show Value.ref (h'.length + 1) = .ref (h.length + 1)
  rw [rm_hp_len hh]

theorem rm_nIs {n : Nat} (h : n ≤ 65536) : ¬ nI n < 0 ∧ (nI n).toNatClampNeg = n := by
  have h1 : n < 2 ^ 31 := by omega
  exact ⟨nI_pos h1, nI_clamp h1⟩
theorem rs_newarray {n : ArrayType} (hb : rm_in xs bx) (hl : rm_lvr xs lv lv') (hs : rm_all xs st st') (hh : rm_hp xs h h') (e : rm_simple L own ini nL (.newarray n) a b pc bx lv st h = some outs) : rm_Post L xs own ini nL (.newarray n) a b pc outs lv' st' h' := by
  cases st with
  | nil =>
    have e9 : (none : Option (List rm_R5)) = some outs := e
    cases e9
  | cons x st =>
    cases st' with
    | nil => exact absurd hs id
    | cons xv st' =>
      obtain ⟨o_x, hs⟩ := hs
      obtain ⟨hq, e⟩ := am_if_eq e
      simp only [Bool.and_eq_true] at hq
      obtain ⟨⟨q1, q2⟩, q3⟩ := hq
      obtain ⟨t, k, m⟩ := x
      obtain rfl : t = 0 := Nat.eq_of_beq_eq_true q1
      have q2 : k ≤ 65536 := Nat.le_of_ble_eq_true q2
      have q3 : a ≤ 2 := Nat.le_of_ble_eq_true q3
      have hv : xv = .int (nI k) := o_x
      subst hv
      obtain ⟨n1, n2⟩ := rm_nIs q2
      cases e
      refine ⟨_, List.mem_singleton.mpr rfl, hb, (pc + 2, lv', .ref (h'.length + 1) :: st', some (none, .inl (a, k, bif Nat.beq a 2 then .inr (.inl (fun _ => 0)) else .inl (fun _ => 0)))), _, ?_, rfl, rfl, hl, ⟨?_, hs⟩, rm_hp_push (v := .inl (a, k, bif Nat.beq a 2 then .inr (.inl (fun _ => 0)) else .inl (fun _ => 0))) hh ⟨rfl, rfl, ?_, fun j hj => ?_⟩⟩
      · show am_if (!(decide (nI k < 0)) && Nat.ble (nI k).toNatClampNeg 65536) (some (pc + 2, lv', .ref (h'.length + 1) :: st', (some (none, .inl (a, (nI k).toNatClampNeg, bif Nat.beq a 2 then .inr (.inl (fun _ => 0)) else .inl (fun _ => 0))) : am_Ef))) = _
        rw [n2, decide_eq_false n1, Nat.ble_eq_true_of_le q2]; rfl
      · show Value.ref (h'.length + 1) = .ref (h.length + 1)
        rw [rm_hp_len hh]
      · rcases (show a = 0 ∨ a = 1 ∨ a = 2 by omega) with rfl | rfl | rfl
        · exact ⟨fun _ => ⟨_, rfl⟩, fun q => by omega, fun q => by omega⟩
        · exact ⟨fun _ => ⟨_, rfl⟩, fun q => by omega, fun q => by omega⟩
        · exact ⟨fun q => by omega, fun _ => ⟨_, rfl⟩, fun q => by omega⟩
      · rcases (show a = 0 ∨ a = 1 ∨ a = 2 by omega) with rfl | rfl | rfl
        · exact rfl
        · exact rfl
        · exact rfl

theorem rs_anewarray {n : Nat} (hb : rm_in xs bx) (hl : rm_lvr xs lv lv') (hs : rm_all xs st st') (hh : rm_hp xs h h') (e : rm_simple L own ini nL (.anewarray n) a b pc bx lv st h = some outs) : rm_Post L xs own ini nL (.anewarray n) a b pc outs lv' st' h' := by
  cases st with
  | nil =>
    have e9 : (none : Option (List rm_R5)) = some outs := e
    cases e9
  | cons x st =>
    cases st' with
    | nil => exact absurd hs id
    | cons xv st' =>
      obtain ⟨o_x, hs⟩ := hs
      obtain ⟨hq, e⟩ := am_if_eq e
      simp only [Bool.and_eq_true] at hq
      obtain ⟨⟨⟨q1, q2⟩, q3⟩, q4⟩ := hq
      obtain ⟨t, k, m⟩ := x
      obtain rfl : t = 0 := Nat.eq_of_beq_eq_true q1
      have q2 : k ≤ 65536 := Nat.le_of_ble_eq_true q2
      have q3 : 3 ≤ a := Nat.le_of_ble_eq_true q3
      have hv : xv = .int (nI k) := o_x
      subst hv
      obtain ⟨n1, n2⟩ := rm_nIs q2
      cases e
      refine ⟨_, List.mem_singleton.mpr rfl, hb, (pc + 3, lv', .ref (h'.length + 1) :: st', some (none, .inl (a, k, .inr (.inr (.inr (.inr (fun _ => none))))))), _, ?_, rfl, rfl, hl, ⟨?_, hs⟩, rm_hp_push (v := .inl (a, k, .inr (.inr (.inr (.inr (fun _ => none)))))) hh ⟨rfl, rfl, ⟨fun q => by omega, fun q => by omega, fun _ => ⟨_, rfl⟩⟩, fun j hj => ?_⟩⟩
      · show am_if (!(decide (nI k < 0)) && Nat.ble (nI k).toNatClampNeg 65536) (some (pc + 3, lv', .ref (h'.length + 1) :: st', (some (none, .inl (a, (nI k).toNatClampNeg, .inr (.inr (.inr (.inr (fun _ => none)))))) : am_Ef))) = _
        rw [n2, decide_eq_false n1, Nat.ble_eq_true_of_le q2]; rfl
      · show Value.ref (h'.length + 1) = .ref (h.length + 1)
        rw [rm_hp_len hh]
      · show rm_ok xs (rm_df a) .null
        unfold rm_df
        have b1 : Nat.blt a 2 = false := by
          cases hz : Nat.blt a 2 with
          | true => have := Nat.blt_eq.mp hz; omega
          | false => rfl
        have b2 : Nat.beq a 2 = false := by
          cases hz : Nat.beq a 2 with
          | true => have := Nat.eq_of_beq_eq_true hz; omega
          | false => rfl
        rw [b1, b2]
        exact rfl

theorem rs_tsw {dd lo hi : Int} {offs : Array Int} (hb : rm_in xs bx) (hl : rm_lvr xs lv lv') (hs : rm_all xs st st') (hh : rm_hp xs h h') (e : rm_simple L own ini nL (.tableswitch dd lo hi offs) a b pc bx lv st h = some outs) : rm_Post L xs own ini nL (.tableswitch dd lo hi offs) a b pc outs lv' st' h' := by
  cases st with
  | nil =>
    have e9 : (none : Option (List rm_R5)) = some outs := e
    cases e9
  | cons x st =>
    cases st' with
    | nil => exact absurd hs id
    | cons xv st' =>
      obtain ⟨o_x, hs⟩ := hs
      obtain ⟨hq, eZ⟩ := am_if_eq e
      clear e
      simp only [Bool.and_eq_true] at hq
      obtain ⟨⟨⟨⟨⟨⟨q1, q2⟩, q3⟩, q4⟩, q5⟩, q6⟩, q7⟩ := hq
      obtain ⟨vx, rfl⟩ := rm_ok_I o_x q1
      obtain rfl : lo = 0 := of_decide_eq_true q2
      have q4 : offs.size = (hi + 1).toNat := Nat.eq_of_beq_eq_true q4
      have q5 : 0 ≤ hi := of_decide_eq_true q5
      have q6 : hi < 1000 := of_decide_eq_true q6
      have hkey := rm_key_int vx
      have hbd := rm_key_bd vx
      have pick : ∀ {o : rm_R5} {tt : Nat}, o ∈ outs → rm_in xs o.1 → o.2 = (tt, lv, st, h) → am_simple L xs own ini nL (.tableswitch dd 0 hi offs) a b pc lv' (.int vx :: st') h' = some (tt, lv', st', none) → rm_Post L xs own ini nL (.tableswitch dd 0 hi offs) a b pc outs lv' (.int vx :: st') h' := by
        intro o tt h1 h2 h3 h4
        refine ⟨o, h1, h2, _, h', h4, rfl, by rw [h3], by rw [h3]; exact hl, by rw [h3]; exact hs, by rw [h3]; exact hh⟩
      by_cases hA : vx.toInt < 0 ∨ hi < vx.toInt
      · have hsm : am_simple L xs own ini nL (.tableswitch dd 0 hi offs) a b pc lv' (.int vx :: st') h' = some (rm_tgt pc dd, lv', st', none) := by
          show (bif decide (vx.toInt < 0) || decide (hi < vx.toInt) then am_sw pc dd else (offs[(vx.toInt - 0).toNat]?).bind (am_sw pc)).bind _ = _
          have hb9 : (decide (vx.toInt < 0) || decide (hi < vx.toInt)) = true := by
            rcases hA with hA | hA <;> simp [hA]
          rw [hb9]
          show (am_sw pc dd).bind _ = _
          rw [am_sw_of q3]; rfl
        cases hn : Nat.beq (rm_norm bx x).1 1 with
        | true =>
          rw [hn] at eZ
          cases eZ
          have hx1 := rm_norm_1 hn
          obtain ⟨t, k, m⟩ := x
          obtain rfl : t = 1 := Nat.eq_of_beq_eq_true hx1
          have hv : Value.int vx = .int (xs k) := o_x
          cases hv
          rcases hA with hA | hA
          · obtain ⟨z, z1, z2⟩ := rm_cut_in (k := k) (lo := 0) (hi := 2147483647) hb (Nat.zero_le _) (by omega)
            exact pick (List.mem_append_left _ (List.mem_append_left _ (List.mem_map.mpr ⟨z, z1, rfl⟩))) z2 rfl hsm
          · obtain ⟨z, z1, z2⟩ := rm_cut_in (k := k) (lo := 2147483648 + (hi + 1).toNat) (hi := 4294967295) hb (by omega) (by omega)
            exact pick (List.mem_append_left _ (List.mem_append_right _ (List.mem_map.mpr ⟨z, z1, rfl⟩))) z2 rfl hsm
        | false =>
          rw [hn] at eZ
          cases eZ
          exact pick List.mem_cons_self hb rfl hsm
      · have hA1 : ¬ vx.toInt < 0 := fun z => hA (Or.inl z)
        have hA2 : ¬ hi < vx.toInt := fun z => hA (Or.inr z)
        have hj : vx.toInt.toNat < offs.size := by omega
        have hget : offs[vx.toInt.toNat]? = some offs[vx.toInt.toNat] := Array.getElem?_eq_getElem hj
        have hmem : offs[vx.toInt.toNat] ∈ offs.toList := by
          rw [Array.mem_toList_iff]; exact Array.getElem_mem hj
        have hgd : offs.toList.getD vx.toInt.toNat 0 = offs[vx.toInt.toNat] := by
          rw [List.getD_eq_getElem?_getD, Array.getElem?_toList, hget]; rfl
        have hsm : am_simple L xs own ini nL (.tableswitch dd 0 hi offs) a b pc lv' (.int vx :: st') h' = some (rm_tgt pc offs[vx.toInt.toNat], lv', st', none) := by
          show (bif decide (vx.toInt < 0) || decide (hi < vx.toInt) then am_sw pc dd else (offs[(vx.toInt - 0).toNat]?).bind (am_sw pc)).bind _ = _
          have hb9 : (decide (vx.toInt < 0) || decide (hi < vx.toInt)) = false := by simp [hA1, hA2]
          rw [hb9]
          show ((offs[(vx.toInt - 0).toNat]?).bind (am_sw pc)).bind _ = _
          rw [Int.sub_zero, hget]
          show (am_sw pc offs[vx.toInt.toNat]).bind _ = _
          rw [am_sw_of (List.all_eq_true.mp q7 _ hmem)]; rfl
        cases hn : Nat.beq (rm_norm bx x).1 1 with
        | true =>
          rw [hn] at eZ
          cases eZ
          have hx1 := rm_norm_1 hn
          obtain ⟨t, k, m⟩ := x
          obtain rfl : t = 1 := Nat.eq_of_beq_eq_true hx1
          have hv : Value.int vx = .int (xs k) := o_x
          cases hv
          obtain ⟨z, z1, z2⟩ := rm_cut_in (k := k) (lo := 2147483648 + (xs k).toInt.toNat) (hi := 2147483648 + (xs k).toInt.toNat) hb (by omega) (by omega)
          exact pick (List.mem_append_right _ (List.mem_flatMap.mpr ⟨(xs k).toInt.toNat, List.mem_range.mpr (by omega), List.mem_map.mpr ⟨z, z1, rfl⟩⟩)) z2 (by rw [hgd]) hsm
        | false =>
          rw [hn] at eZ
          cases eZ
          exact pick (List.mem_cons_of_mem _ (List.mem_map.mpr ⟨_, hmem, rfl⟩)) hb rfl hsm

theorem rs_simple {i : Instr} (hb : rm_in xs bx) (hl : rm_lvr xs lv lv') (hs : rm_all xs st st') (hh : rm_hp xs h h') (e : rm_simple L own ini nL i a b pc bx lv st h = some outs) : rm_Post L xs own ini nL i a b pc outs lv' st' h' := by
  cases i with
  | iconst n => exact rs_iconst hb hl hs hh e
  | bipush n => exact rs_bipush hb hl hs hh e
  | sipush n => exact rs_sipush hb hl hs hh e
  | lconst n => exact rs_lconst hb hl hs hh e
  | ldc_w n => exact rs_ldc_w hb hl hs hh e
  | ldc2_w n => exact rs_ldc2_w hb hl hs hh e
  | iload_n n => exact rs_iload_n hb hl hs hh e
  | iload n => exact rs_iload hb hl hs hh e
  | lload_n n => exact rs_lload_n hb hl hs hh e
  | lload n => exact rs_lload hb hl hs hh e
  | aload_n n => exact rs_aload_n hb hl hs hh e
  | istore_n n => exact rs_istore_n hb hl hs hh e
  | istore n => exact rs_istore hb hl hs hh e
  | lstore_n n => exact rs_lstore_n hb hl hs hh e
  | astore_n n => exact rs_astore_n hb hl hs hh e
  | goto n => exact rs_goto hb hl hs hh e
  | getfield n => exact rs_getfield hb hl hs hh e
  | putfield n => exact rs_putfield hb hl hs hh e
  | new n => exact rs_new hb hl hs hh e
  | newarray n => exact rs_newarray hb hl hs hh e
  | anewarray n => exact rs_anewarray hb hl hs hh e
  | iinc n j => exact rs_iinc hb hl hs hh e
  | dup => exact rs_dup hb hl hs hh e
  | dup2 => exact rs_dup2 hb hl hs hh e
  | iadd => exact rs_iadd hb hl hs hh e
  | isub => exact rs_isub hb hl hs hh e
  | imul => exact rs_imul hb hl hs hh e
  | iand => exact rs_iand hb hl hs hh e
  | ishr => exact rs_ishr hb hl hs hh e
  | iushr => exact rs_iushr hb hl hs hh e
  | land => exact rs_land hb hl hs hh e
  | lor => exact rs_lor hb hl hs hh e
  | lshl => exact rs_lshl hb hl hs hh e
  | lcmp => exact rs_lcmp hb hl hs hh e
  | i2l => exact rs_i2l hb hl hs hh e
  | i2b => exact rs_i2b hb hl hs hh e
  | iaload => exact rs_iaload hb hl hs hh e
  | laload => exact rs_laload hb hl hs hh e
  | aaload => exact rs_aaload hb hl hs hh e
  | iastore => exact rs_iastore hb hl hs hh e
  | bastore => exact rs_bastore hb hl hs hh e
  | lastore => exact rs_lastore hb hl hs hh e
  | aastore => exact rs_aastore hb hl hs hh e
  | arraylength => exact rs_arraylength hb hl hs hh e
  | ifCond c n => exact rs_ifCond hb hl hs hh e
  | if_icmp c n => exact rs_if_icmp hb hl hs hh e
  | tableswitch d lo hi offs => exact rs_tsw hb hl hs hh e
  | _ =>
    have e9 : (none : Option (List rm_R5)) = some outs := e
    cases e9
end RS

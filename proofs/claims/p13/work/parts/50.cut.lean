/-! Loops: what is kept at a loop's head, and what is forgotten -/
/-- more steps do no harm -/
theorem am_go_more (L : Nat) (xs : Nat → Int32) : ∀ (n d y pc : Nat) (lv : am_L) (st : List Value) (h : List am_E) (x : Option Value × List am_E) (m : Nat), am_go L xs n d y pc lv st h = some x → n ≤ m → am_go L xs m d y pc lv st h = some x := by
  intro n
  induction n with
  | zero => intro d y pc lv st h x m hgo; cases hgo
  | succ n ih =>
    intro d y pc lv st h x m hgo hm
    obtain ⟨m, rfl⟩ : ∃ q, m = q + 1 := ⟨m - 1, by omega⟩
    have hm : n ≤ m := by omega
    rw [am_go_succ] at hgo ⊢
    obtain ⟨⟨i, a, b⟩, hc, hgo⟩ := Option.bind_eq_some_iff.mp hgo
    show ((am_code y pc).bind _) = some x
    rw [hc]
    show (bif am_isR i then am_ret i (am_inf y).2.2.2 st h else bif am_isC i then am_inv (am_go L xs m) d y i a b pc lv st h
      else (am_simple L xs (am_inf y).1 (am_inf y).2.1 (am_inf y).2.2.1 i a b pc lv st h).bind fun z => (am_app h z.2.2.2).bind fun h' => am_go L xs m d y z.1 z.2.1 z.2.2.1 h') = some x
    have hgo : (bif am_isR i then am_ret i (am_inf y).2.2.2 st h else bif am_isC i then am_inv (am_go L xs n) d y i a b pc lv st h
      else (am_simple L xs (am_inf y).1 (am_inf y).2.1 (am_inf y).2.2.1 i a b pc lv st h).bind fun z => (am_app h z.2.2.2).bind fun h' => am_go L xs n d y z.1 z.2.1 z.2.2.1 h') = some x := hgo
    cases hR : am_isR i with
    | true => rw [hR] at hgo; exact hgo
    | false =>
      rw [hR] at hgo
      cases hC : am_isC i with
      | true =>
        rw [hC] at hgo
        have hgo : am_inv (am_go L xs n) d y i a b pc lv st h = some x := hgo
        show am_inv (am_go L xs m) d y i a b pc lv st h = some x
        unfold am_inv at hgo ⊢
        cases hs : Nat.ble 1000 a with
        | true =>
          rw [hs] at hgo
          obtain ⟨q, h1, hgo⟩ := Option.bind_eq_some_iff.mp hgo
          obtain ⟨h2, h3, hgo⟩ := Option.bind_eq_some_iff.mp hgo
          exact Option.bind_eq_some_iff.mpr ⟨q, h1, Option.bind_eq_some_iff.mpr ⟨h2, h3, ih _ _ _ _ _ _ _ _ hgo hm⟩⟩
        | false =>
          rw [hs] at hgo
          cases d with
          | zero => cases hgo
          | succ d =>
            obtain ⟨hb, hgo⟩ := am_if_eq hgo
            obtain ⟨q, h1, hgo⟩ := Option.bind_eq_some_iff.mp hgo
            show am_if _ _ = some x
            rw [hb]
            exact Option.bind_eq_some_iff.mpr ⟨q, ih _ _ _ _ _ _ _ _ h1 hm, ih _ _ _ _ _ _ _ _ hgo hm⟩
      | false =>
        rw [hC] at hgo
        obtain ⟨z, h1, hgo⟩ := Option.bind_eq_some_iff.mp hgo
        obtain ⟨h2, h3, hgo⟩ := Option.bind_eq_some_iff.mp hgo
        exact Option.bind_eq_some_iff.mpr ⟨z, h1, Option.bind_eq_some_iff.mpr ⟨h2, h3, ih _ _ _ _ _ _ _ _ hgo hm⟩⟩
/-- a target: a local (0, i, _) or a cell (1, p, j); its tag; whether it only grows from what it was; how far; its bounds -/
abbrev ae_Tg : Type := Nat × Nat × Nat × Nat × Bool × Int × Int × Int × Int
noncomputable def ae_lds (ex : Bool) : List ae_Tg → ae_K → List ae_M → Option (ae_K × List ae_M)
  | [], k, M => some (k, M)
  | t :: r, k, M => bif Nat.beq t.1 0 then ae_lds ex r k M else
      bif Nat.blt 0 t.2.1 && Nat.ble t.2.1 ae_np && Nat.blt t.2.2.1 (ae_sh t.2.1).2.2 then (ae_ld ex k M t.2.1 (ae_num (t.2.2.1 : Int))).bind fun q => ae_lds ex r q.1 q.2.1 else none
noncomputable def ae_cur (M : List ae_M) (lv : ae_L) (t : ae_Tg) : Option ae_X := bif Nat.beq t.1 0 then (ae_lg lv t.2.1).bind fun v => bif Nat.beq v.1 t.2.2.2.1 && Nat.blt v.1 2 then some v.2.2 else none
  else (ae_fd M t.2.1 (ae_num (t.2.2.1 : Int))).bind fun m => bif Nat.beq m.2.2.1.1 t.2.2.2.1 && Nat.blt m.2.2.1.1 2 then some m.2.2.1.2.2 else none
/-- a target's place holds the number x -/
noncomputable def ae_th (L : Nat) (xs : Nat → Int32) (lw : am_L) (h : List am_E) (t : ae_Tg) (x : Int) : Prop :=
  ∃ v, (bif Nat.beq t.1 0 then am_lk lw t.2.1 = some v else ae_cell L xs h t.2.1 t.2.2.1 = some v) ∧ ((t.2.2.2.1 = 0 ∧ ∃ z : Int32, v = .int z ∧ z.toInt = x) ∨ (t.2.2.2.1 = 1 ∧ ∃ z : Int64, v = .long z ∧ z.toInt = x))
noncomputable def ae_ti (k : ae_K) (t : ae_Tg) (b x : ae_X) : Bool := ae_rg k (ae_sub x b) t.2.2.2.2.2.1 t.2.2.2.2.2.2.1 && ae_rg k x t.2.2.2.2.2.2.2.1 t.2.2.2.2.2.2.2.2
/-- the targets with what they grow from -/
noncomputable def ae_it (k : ae_K) (M : List ae_M) (lv : ae_L) : List ae_Tg → Option (List (ae_Tg × ae_X))
  | [] => some []
  | t :: r => (ae_cur M lv t).bind fun x => bif ae_ti k t (bif t.2.2.2.2.1 then x else ae_num 0) x then (ae_it k M lv r).bind fun s => some ((t, bif t.2.2.2.2.1 then x else ae_num 0) :: s) else none
noncomputable def ae_tv (b : ae_X) (s : Nat) : ae_X := ae_add b (ae_sym s)
noncomputable def ae_tf (t : ae_Tg) (v : ae_X) : List ae_X := bif t.2.2.2.2.1 then [ae_pls v (-t.2.2.2.2.2.2.2.2), ae_neg v t.2.2.2.2.2.2.2.1] else []
noncomputable def ae_gi : List (ae_Tg × ae_X) → ae_K → ae_L → List ae_M → ae_K × ae_L × List ae_M × List ae_X
  | [], k, lv, M => (k, lv, M, [])
  | i :: r, k, lv, M =>
    let q := ae_gi r (ae_fnew k i.1.2.2.2.2.2.1 i.1.2.2.2.2.2.2.1 (ae_tf i.1 (ae_tv i.2 k.1))) (bif Nat.beq i.1.1 0 then (i.1.2.1, (i.1.2.2.2.1, 0, ae_tv i.2 k.1)) :: lv else lv) (bif Nat.beq i.1.1 0 then M else (i.1.2.1, ae_num (i.1.2.2.1 : Int), (i.1.2.2.2.1, 0, ae_tv i.2 k.1), false) :: M)
    (q.1, q.2.1, q.2.2.1, ae_tv i.2 k.1 :: q.2.2.2)
/-- the numbers x at the targets lie so -/
noncomputable def ae_tx (ρ : Nat → Int) (n : Nat) (L : Nat) (xs : Nat → Int32) (lw : am_L) (h : List am_E) : List (ae_Tg × ae_X) → List Int → Prop
  | [], [] => True
  | i :: r, x :: s => (ae_wt n i.2.2 ∧ ae_th L xs lw h i.1 x ∧ (i.1.2.2.2.2.2.1 ≤ x - ae_ev ρ i.2 ∧ x - ae_ev ρ i.2 ≤ i.1.2.2.2.2.2.2.1) ∧ i.1.2.2.2.2.2.2.2.1 ≤ x ∧ x ≤ i.1.2.2.2.2.2.2.2.2) ∧ ae_tx ρ n L xs lw h r s
  | _, _ => False
noncomputable def ae_dns (n : Nat) (ρ : Nat → Int) : List ae_X → List Int → Prop
  | [], [] => True
  | e :: r, x :: s => ae_dn n ρ e x ∧ ae_dns n ρ r s
  | _, _ => False
theorem ae_tx_ext {n m : Nat} {ρ ρ' : Nat → Int} {L : Nat} {xs : Nat → Int32} {lw : am_L} {h : List am_E} (hn : n ≤ m) (a : ae_ag n ρ ρ') : ∀ {is : List (ae_Tg × ae_X)} {zs : List Int}, ae_tx ρ n L xs lw h is zs → ae_tx ρ' m L xs lw h is zs
  | [], [], _ => trivial
  | i :: r, x :: s, q => ⟨⟨ae_wt_le hn q.1.1, q.1.2.1, by rw [ae_ev_ag a q.1.1]; exact q.1.2.2.1, q.1.2.2.2⟩, ae_tx_ext hn a q.2⟩
  | [], _ :: _, q => absurd q id
  | _ :: _, [], q => absurd q id
section AEU
variable {ex : Bool} {L : Nat} {xs : Nat → Int32} {lw : am_L} {h : List am_E}
theorem ae_gi_ok : ∀ {is : List (ae_Tg × ae_X)} {zs : List Int} {ρ : Nat → Int} {k : ae_K} {lv : ae_L} {M : List ae_M}, ae_okK ρ k → ae_k0 ρ L k → ae_hp ex k.1 ρ L xs M h → ae_lr k.1 ρ lv lw → ae_tx ρ k.1 L xs lw h is zs →
    ∃ ρ', ae_up2 ρ k ρ' (ae_gi is k lv M).1 ∧ ae_mm ex ρ' L xs (ae_gi is k lv M).1 (ae_gi is k lv M).2.2.1 (ae_gi is k lv M).2.1 [] lw [] h ∧ ae_dns (ae_gi is k lv M).1.1 ρ' (ae_gi is k lv M).2.2.2 zs
  | [], [], ρ, k, lv, M, hK, h0, hH, hl, _ => ⟨ρ, ⟨Nat.le_refl _, ae_ag_rf _ _, hK⟩, ⟨hK, h0, hH, hl, trivial⟩, trivial⟩
  | i :: r, x :: s, ρ, k, lv, M, hK, h0, hH, hl, q => by
    obtain ⟨⟨q1, ⟨v, q2, q3⟩, q4, q5⟩, q6⟩ := q
    have a1 := ae_up_ag ρ k.1 (x - ae_ev ρ i.2)
    have hs : ae_dn (k.1 + 1) (ae_up ρ k.1 (x - ae_ev ρ i.2)) (ae_sym k.1) (x - ae_ev ρ i.2) := by
      have := ae_sym_dn (n := k.1 + 1) (ρ := ae_up ρ k.1 (x - ae_ev ρ i.2)) (s := k.1) (Nat.lt_succ_self _)
      rwa [ae_up_at] at this
    have hb : ae_dn (k.1 + 1) (ae_up ρ k.1 (x - ae_ev ρ i.2)) i.2 (ae_ev ρ i.2) := ae_dn_ext (Nat.le_succ _) a1 ⟨q1, rfl⟩
    have hv : ae_dn (k.1 + 1) (ae_up ρ k.1 (x - ae_ev ρ i.2)) (ae_tv i.2 k.1) x := by
      have := ae_add_dn hb hs
      have e1 : ae_ev ρ i.2 + (x - ae_ev ρ i.2) = x := by omega
      rwa [e1] at this
    have K1 : ae_okK (ae_up ρ k.1 (x - ae_ev ρ i.2)) (ae_fnew k i.1.2.2.2.2.2.1 i.1.2.2.2.2.2.2.1 (ae_tf i.1 (ae_tv i.2 k.1))) := by
      refine ae_fnew_ok hK q4.1 q4.2 (fun f hf => ?_)
      unfold ae_tf at hf
      cases hm : i.1.2.2.2.2.1 with
      | false => rw [hm] at hf; exact absurd hf List.not_mem_nil
      | true =>
        rw [hm] at hf
        rcases List.mem_cons.mp hf with rfl | hf
        · have := ae_pls_dn hv (-i.1.2.2.2.2.2.2.2.2)
          exact ⟨this.1, by rw [this.2]; omega⟩
        · rw [List.mem_singleton.mp hf]
          have := ae_neg_dn hv i.1.2.2.2.2.2.2.2.1
          exact ⟨this.1, by rw [this.2]; omega⟩
    have hval : ae_ok (k.1 + 1) (ae_up ρ k.1 (x - ae_ev ρ i.2)) (i.1.2.2.2.1, 0, ae_tv i.2 k.1) v := by
      rcases q3 with ⟨t0, z, rfl, hz⟩ | ⟨t0, z, rfl, hz⟩
      · rw [t0]; exact ⟨z, rfl, by rw [hz]; exact hv⟩
      · rw [t0]; exact ⟨z, rfl, by rw [hz]; exact hv⟩
    have u1 : ae_up2 ρ k (ae_up ρ k.1 (x - ae_ev ρ i.2)) (ae_fnew k i.1.2.2.2.2.2.1 i.1.2.2.2.2.2.2.1 (ae_tf i.1 (ae_tv i.2 k.1))) := ⟨Nat.le_succ _, a1, K1⟩
    have hH1 := ae_hp_ext u1.1 u1.2.1 hH
    have hl1 := ae_lr_ext u1.1 u1.2.1 hl
    have hl2 : ae_lr (k.1 + 1) (ae_up ρ k.1 (x - ae_ev ρ i.2)) (bif Nat.beq i.1.1 0 then (i.1.2.1, (i.1.2.2.2.1, 0, ae_tv i.2 k.1)) :: lv else lv) lw := by
      cases hk : Nat.beq i.1.1 0 with
      | false => exact hl1
      | true =>
        rw [hk] at q2
        intro p hp
        rcases List.mem_cons.mp hp with rfl | hp
        · exact ⟨v, q2, hval⟩
        · exact hl1 p hp
    have hH2 : ae_hp ex (k.1 + 1) (ae_up ρ k.1 (x - ae_ev ρ i.2)) L xs (bif Nat.beq i.1.1 0 then M else (i.1.2.1, ae_num (i.1.2.2.1 : Int), (i.1.2.2.2.1, 0, ae_tv i.2 k.1), false) :: M) h := by
      cases hk : Nat.beq i.1.1 0 with
      | true => exact hH1
      | false =>
        rw [hk] at q2
        refine ⟨hH1.1, fun m hm => ?_, fun p' j' v' hp' hc' => ?_, fun f hf ii hi => ?_⟩
        · rcases List.mem_cons.mp hm with rfl | hm
          · exact ⟨i.1.2.2.1, v, ae_num_dn _, q2, hval⟩
          · exact hH1.2.1 m hm
        · rcases hH1.2.2.1 p' j' v' hp' hc' with g | ⟨m, g1, g2⟩ | g
          · exact Or.inl g
          · exact Or.inr (Or.inl ⟨m, List.mem_cons_of_mem _ g1, g2⟩)
          · exact Or.inr (Or.inr g)
        · rcases hH1.2.2.2 f hf ii hi with g | ⟨o, ho, m, g1, g2⟩ | g
          · exact Or.inl g
          · exact Or.inr (Or.inl ⟨o, ho, m, List.mem_cons_of_mem _ g1, g2⟩)
          · exact Or.inr (Or.inr g)
    obtain ⟨ρ2, u2, mm2, d2⟩ := ae_gi_ok (is := r) (zs := s) K1 (ae_k0_up h0 u1) hH2 hl2 (ae_tx_ext u1.1 u1.2.1 q6)
    exact ⟨ρ2, u1.tr u2, mm2, ae_dn_ext u2.1 u2.2.1 hv, d2⟩
  | [], _ :: _, _, _, _, _, _, _, _, _, q => absurd q id
  | _ :: _, [], _, _, _, _, _, _, _, _, q => absurd q id
theorem ae_lds_ok (hr : ae_rok = true) : ∀ {ts : List ae_Tg} {ρ : Nat → Int} {k k' : ae_K} {M M' : List ae_M}, ae_okK ρ k → ae_hp ex k.1 ρ L xs M h → ae_lds ex ts k M = some (k', M') → ∃ ρ', ae_up2 ρ k ρ' k' ∧ ae_hp ex k'.1 ρ' L xs M' h
  | [], ρ, k, k', M, M', hK, hH, q => by cases q; exact ⟨ρ, ⟨Nat.le_refl _, ae_ag_rf _ _, hK⟩, hH⟩
  | t :: r, ρ, k, k', M, M', hK, hH, q => by
    unfold ae_lds at q
    cases hb : Nat.beq t.1 0 with
    | true => rw [hb] at q; exact ae_lds_ok hr hK hH q
    | false =>
      rw [hb] at q
      obtain ⟨hc, q⟩ := ae_bif q
      simp only [Bool.and_eq_true] at hc
      obtain ⟨⟨c1, c2⟩, c3⟩ := hc
      have c1 := Nat.blt_eq.mp c1
      have c2 := Nat.le_of_ble_eq_true c2
      have c3 := Nat.blt_eq.mp c3
      obtain ⟨⟨k1, M1, a1⟩, h1, q⟩ := Option.bind_eq_some_iff.mp q
      obtain ⟨v, hv⟩ := ae_cell_ex (L := L) (xs := xs) hH.1 c1 c2 c3
      obtain ⟨ρ1, u1, H1, -⟩ := ae_ld_ok hr hK hH (ae_num_dn _) hv (fun _ => ⟨c2, c3⟩) h1
      obtain ⟨ρ2, u2, H2⟩ := ae_lds_ok hr u1.2.2 H1 q
      exact ⟨ρ2, u1.tr u2, H2⟩
theorem ae_cur_ok {ρ : Nat → Int} {k : ae_K} {M : List ae_M} {lv : ae_L} (hH : ae_hp ex k.1 ρ L xs M h) (hl : ae_lr k.1 ρ lv lw) {t : ae_Tg} {x : ae_X} (q : ae_cur M lv t = some x) : ae_wt k.1 x.2 ∧ ae_th L xs lw h t (ae_ev ρ x) := by
  have key : ∀ (a : ae_V) (v : Value), ae_ok k.1 ρ a v → Nat.beq a.1 t.2.2.2.1 = true → Nat.blt a.1 2 = true → ae_wt k.1 a.2.2.2 ∧ ((t.2.2.2.1 = 0 ∧ ∃ z : Int32, v = .int z ∧ z.toInt = ae_ev ρ a.2.2) ∨ (t.2.2.2.1 = 1 ∧ ∃ z : Int64, v = .long z ∧ z.toInt = ae_ev ρ a.2.2)) := by
    intro a v ha h1 h2
    have h1 := Nat.eq_of_beq_eq_true h1
    have h2 := Nat.blt_eq.mp h2
    obtain ⟨t', p, e⟩ := a
    have h1 : t' = t.2.2.2.1 := h1
    have h2 : t' < 2 := h2
    match t', ha, h2, h1 with
    | 0, ha, _, h1 => obtain ⟨z, e1, e2⟩ := ha; exact ⟨e2.1, Or.inl ⟨h1.symm, z, e1, e2.2.symm⟩⟩
    | 1, ha, _, h1 => obtain ⟨z, e1, e2⟩ := ha; exact ⟨e2.1, Or.inr ⟨h1.symm, z, e1, e2.2.symm⟩⟩
    | n + 2, _, h2, _ => exact absurd h2 (by omega)
  unfold ae_cur at q
  unfold ae_th
  cases hb : Nat.beq t.1 0 with
  | true =>
    rw [hb] at q
    obtain ⟨a, h1, q⟩ := Option.bind_eq_some_iff.mp q
    obtain ⟨hc, q⟩ := ae_bif q
    cases q
    rw [Bool.and_eq_true] at hc
    obtain ⟨v, g1, g2⟩ := ae_lg_ok hl h1
    obtain ⟨z1, z2⟩ := key a v g2 hc.1 hc.2
    exact ⟨z1, v, g1, z2⟩
  | false =>
    rw [hb] at q
    obtain ⟨m, h1, q⟩ := Option.bind_eq_some_iff.mp q
    obtain ⟨hc, q⟩ := ae_bif q
    cases q
    rw [Bool.and_eq_true] at hc
    obtain ⟨m1, m2, m3⟩ := ae_fd_ok h1
    obtain ⟨j, v, g1, g2, g3⟩ := hH.2.1 m m1
    obtain ⟨z1, z2⟩ := key m.2.2.1 v g3 hc.1 hc.2
    have hj : j = t.2.2.1 := by
      have e1 := g1.2
      rw [m3] at e1
      have e2 : ae_ev ρ (ae_num (t.2.2.1 : Int)) = (t.2.2.1 : Int) := Int.add_zero _
      omega
    rw [m2, hj] at g2
    exact ⟨z1, v, g2, z2⟩
theorem ae_ti_ok {ρ : Nat → Int} {k : ae_K} (hK : ae_okK ρ k) {t : ae_Tg} {b x : ae_X} (q : ae_ti k t b x = true) : (t.2.2.2.2.2.1 ≤ ae_ev ρ x - ae_ev ρ b ∧ ae_ev ρ x - ae_ev ρ b ≤ t.2.2.2.2.2.2.1) ∧ t.2.2.2.2.2.2.2.1 ≤ ae_ev ρ x ∧ ae_ev ρ x ≤ t.2.2.2.2.2.2.2.2 := by
  unfold ae_ti at q
  rw [Bool.and_eq_true] at q
  have h1 := ae_rg_ok hK q.1
  rw [ae_sub_ev] at h1
  exact ⟨h1, ae_rg_ok hK q.2⟩
theorem ae_it_ok {ρ : Nat → Int} {k : ae_K} {M : List ae_M} {lv : ae_L} (hK : ae_okK ρ k) (hH : ae_hp ex k.1 ρ L xs M h) (hl : ae_lr k.1 ρ lv lw) : ∀ {ts : List ae_Tg} {is : List (ae_Tg × ae_X)}, ae_it k M lv ts = some is → ∃ zs, ae_tx ρ k.1 L xs lw h is zs
  | [], is, q => by cases q; exact ⟨[], trivial⟩
  | t :: r, is, q => by
    obtain ⟨x, h1, q⟩ := Option.bind_eq_some_iff.mp q
    obtain ⟨hc, q⟩ := ae_bif q
    obtain ⟨s, h2, q⟩ := Option.bind_eq_some_iff.mp q
    cases q
    obtain ⟨zs, g⟩ := ae_it_ok hK hH hl h2
    obtain ⟨w1, w2⟩ := ae_cur_ok hH hl h1
    obtain ⟨z1, z2⟩ := ae_ti_ok hK hc
    refine ⟨ae_ev ρ x :: zs, ⟨?_, w2, z1, z2⟩, g⟩
    show ae_wt k.1 (bif t.2.2.2.2.1 then x else ae_num 0).2
    cases t.2.2.2.2.1 with
    | true => exact w1
    | false => exact trivial
/-- later, at the same head: the targets are within what was said -/
noncomputable def ae_ib2 (k : ae_K) (M : List ae_M) (lv : ae_L) : List (ae_Tg × ae_X) → Option (List ae_X)
  | [] => some []
  | i :: r => (ae_cur M lv i.1).bind fun x => bif ae_ti k i.1 i.2 x then (ae_ib2 k M lv r).bind fun s => some (x :: s) else none
theorem ae_ib2_ok {ρ : Nat → Int} {k : ae_K} {M : List ae_M} {lv : ae_L} (hK : ae_okK ρ k) (hH : ae_hp ex k.1 ρ L xs M h) (hl : ae_lr k.1 ρ lv lw) {n : Nat} : ∀ {is : List (ae_Tg × ae_X)} {ws : List ae_X}, (∀ i ∈ is, ae_wt n i.2.2) → ae_ib2 k M lv is = some ws → ae_tx ρ n L xs lw h is (ws.map (ae_ev ρ))
  | [], ws, _, q => by cases q; exact trivial
  | i :: r, ws, hw, q => by
    obtain ⟨x, h1, q⟩ := Option.bind_eq_some_iff.mp q
    obtain ⟨hc, q⟩ := ae_bif q
    obtain ⟨s, h2, q⟩ := Option.bind_eq_some_iff.mp q
    cases q
    obtain ⟨w1, w2⟩ := ae_cur_ok hH hl h1
    obtain ⟨z1, z2⟩ := ae_ti_ok hK hc
    exact ⟨⟨hw i List.mem_cons_self, w2, z1, z2⟩, ae_ib2_ok hK hH hl (fun j hj => hw j (List.mem_cons_of_mem _ hj)) h2⟩
theorem ae_ok_wt {m n : Nat} {ρ : Nat → Int} {a : ae_V} {v : Value} (q : ae_ok m ρ a v) (w : ae_wt n a.2.2.2) : ae_ok n ρ a v := by
  obtain ⟨t, p, e⟩ := a
  unfold ae_ok at *
  match t, q with
  | 0, q => obtain ⟨x, h1, h2⟩ := q; exact ⟨x, h1, w, h2.2⟩
  | 1, q => obtain ⟨x, h1, h2⟩ := q; exact ⟨x, h1, w, h2.2⟩
  | 2, q => exact q
  | 3, q => exact q
  | 4, q => obtain ⟨x, h1, h2⟩ := q; exact ⟨x, ⟨w, h1.2⟩, h2⟩
  | t + 5, q => exact absurd q id
/-- with fewer entries, none of them dirty -/
theorem ae_hp_sub {ρ : Nat → Int} {n m : Nat} {M M' : List ae_M} (hH : ae_hp ex n ρ L xs M h) (hd : ∀ p j, ¬ ae_dy ρ M p j) (he : ∀ q ∈ M', ae_eo m ρ L xs h q) : ae_hp ex m ρ L xs M' h := by
  refine ⟨hH.1, he, fun p j v hp hc => ?_, fun f hf i hi => ?_⟩
  · rcases hH.2.2.1 p j v hp hc with g | g | g
    · exact Or.inl g
    · exact absurd g (hd p j)
    · exact Or.inr (Or.inr g)
  · rcases hH.2.2.2 f hf i hi with g | ⟨o, ho, g⟩ | g
    · exact Or.inl g
    · exact absurd g (hd _ _)
    · exact Or.inr (Or.inr g)
/-- targets that are tied: a kind of 2 + j holds the same number as target j -/
noncomputable def ae_ts : Nat → List ae_Tg → List (Nat × Nat)
  | _, [] => []
  | n, t :: r => bif Nat.ble 2 t.1 then (n, t.1 - 2) :: ae_ts (n + 1) r else ae_ts (n + 1) r
noncomputable def ae_tz1 (k : ae_K) (x y : Option ae_X) : Bool := match x, y with
  | some x, some y => ae_rg k (ae_sub x y) 0 0
  | _, _ => false
noncomputable def ae_tz (k : ae_K) (T : List (Nat × Nat)) (ws : List ae_X) : Bool := T.all fun t => ae_tz1 k ws[t.1]? ws[t.2]?
/-- whether an entry is that of a target; what stands there then -/
noncomputable def ae_tq (is : List (ae_Tg × ae_X)) (ws : List ae_X) (m : ae_M) (t : Nat × Nat) : Option ae_V := (is[t.1]?).bind fun i => (ws[t.2]?).bind fun y =>
  bif !(Nat.beq i.1.1 0) && Nat.beq i.1.2.1 m.1 && ae_kc m.2.1 && ae_ie m.2.1.1 (i.1.2.2.1 : Int) then some (i.1.2.2.2.1, 0, y) else none
noncomputable def ae_tm (T : List (Nat × Nat)) (is : List (ae_Tg × ae_X)) (ws : List ae_X) (m : ae_M) : ae_M := match T.findSome? (ae_tq is ws m) with
  | some a => (m.1, m.2.1, a, m.2.2.2)
  | none => m
noncomputable def ae_tp (T : List (Nat × Nat)) (zs : List Int) : Prop := ∀ t ∈ T, ∀ x y, zs[t.1]? = some x → zs[t.2]? = some y → x = y
noncomputable def ae_gf1 (T : List (Nat × Nat)) (is : List (ae_Tg × ae_X)) (q : ae_K × ae_L × List ae_M × List ae_X) : ae_K × ae_L × List ae_M × List ae_X := match T with
  | [] => q
  | t :: r => (q.1, q.2.1, q.2.2.1.map (ae_tm (t :: r) is q.2.2.2), q.2.2.2)
noncomputable def ae_gf (is : List (ae_Tg × ae_X)) (q : ae_K × ae_L × List ae_M × List ae_X) : ae_K × ae_L × List ae_M × List ae_X := (q.1, q.2.1, (ae_gf1 (ae_ts 0 (is.map fun i => i.1)) is q).2.2.1, q.2.2.2)
theorem ae_tz_ok {ρ : Nat → Int} {k : ae_K} (hK : ae_okK ρ k) {T : List (Nat × Nat)} {ws : List ae_X} (q : ae_tz k T ws = true) : ae_tp T (ws.map (ae_ev ρ)) := by
  intro t ht x y hx hy
  have g := List.all_eq_true.mp q t ht
  rw [List.getElem?_map] at hx hy
  cases h1 : ws[t.1]? with
  | none => rw [h1] at hx; cases hx
  | some a =>
    cases h2 : ws[t.2]? with
    | none => rw [h2] at hy; cases hy
    | some b =>
      rw [h1] at hx g
      rw [h2] at hy g
      cases hx
      cases hy
      have := ae_rg_ok hK (show ae_rg k (ae_sub a b) 0 0 = true from g)
      rw [ae_sub_ev] at this
      omega
theorem ae_dns_at {n : Nat} {ρ : Nat → Int} : ∀ {es : List ae_X} {zs : List Int} {r : Nat} {e : ae_X}, ae_dns n ρ es zs → es[r]? = some e → ∃ z, zs[r]? = some z ∧ ae_dn n ρ e z
  | [], _, _, _, _, g2 => by cases g2
  | _ :: _, [], _, _, g1, _ => absurd g1 id
  | _ :: _, w :: _, 0, _, g1, g2 => by cases g2; exact ⟨w, rfl, g1.1⟩
  | _ :: es, _ :: zs, r + 1, _, g1, g2 => ae_dns_at (es := es) (zs := zs) (r := r) g1.2 g2
theorem ae_tx_at {ρ : Nat → Int} {n : Nat} {lw : am_L} : ∀ {is : List (ae_Tg × ae_X)} {zs : List Int} {r : Nat} {i : ae_Tg × ae_X}, ae_tx ρ n L xs lw h is zs → is[r]? = some i → ∃ z, zs[r]? = some z ∧ ae_th L xs lw h i.1 z
  | [], _, _, _, _, g2 => by cases g2
  | _ :: _, [], _, _, g1, _ => absurd g1 id
  | _ :: _, z :: _, 0, _, g1, g2 => by cases g2; exact ⟨z, rfl, g1.1.2.1⟩
  | _ :: is, _ :: zs, r + 1, _, g1, g2 => ae_tx_at (is := is) (zs := zs) (r := r) g1.2 g2
/-- with other values in its entries -/
theorem ae_hp_map {ρ : Nat → Int} {n : Nat} {M : List ae_M} {f : ae_M → ae_M} (hf : ∀ m, (f m).1 = m.1 ∧ (f m).2.1 = m.2.1 ∧ (f m).2.2.2 = m.2.2.2) (hH : ae_hp ex n ρ L xs M h) (hA : ∀ m ∈ M, ae_eo n ρ L xs h (f m)) : ae_hp ex n ρ L xs (M.map f) h := by
  have dy : ∀ p j, ae_dy ρ M p j → ae_dy ρ (M.map f) p j := fun p j ⟨m, g1, g2, g3, g4⟩ => ⟨f m, List.mem_map.mpr ⟨m, g1, rfl⟩, by rw [(hf m).2.2]; exact g2, by rw [(hf m).1]; exact g3, by rw [(hf m).2.1]; exact g4⟩
  refine ⟨hH.1, fun m hm => ?_, fun p j v hp hc => ?_, fun g hg i hi => ?_⟩
  · obtain ⟨m0, g, rfl⟩ := List.mem_map.mp hm
    exact hA m0 g
  · rcases hH.2.2.1 p j v hp hc with g | g | g
    · exact Or.inl g
    · exact Or.inr (Or.inl (dy p j g))
    · exact Or.inr (Or.inr g)
  · rcases hH.2.2.2 g hg i hi with q | ⟨o, ho, q⟩ | q
    · exact Or.inl q
    · exact Or.inr (Or.inl ⟨o, ho, dy _ _ q⟩)
    · exact Or.inr (Or.inr q)
theorem ae_gf_ok {ρ ρ0 : Nat → Int} {n0 : Nat} {lw : am_L} {is : List (ae_Tg × ae_X)} {q : ae_K × ae_L × List ae_M × List ae_X} {zs : List Int} (hm : ae_mm ex ρ L xs q.1 q.2.2.1 q.2.1 [] lw [] h) (hx : ae_tx ρ0 n0 L xs lw h is zs) (hd : ae_dns q.1.1 ρ q.2.2.2 zs) (ht : ae_tp (ae_ts 0 (is.map fun i => i.1)) zs) : ae_mm ex ρ L xs (ae_gf is q).1 (ae_gf is q).2.2.1 (ae_gf is q).2.1 [] lw [] h := by
  refine ⟨hm.1, hm.2.1, ?_, hm.2.2.2⟩
  show ae_hp ex q.1.1 ρ L xs (ae_gf1 (ae_ts 0 (is.map fun i => i.1)) is q).2.2.1 h
  generalize ae_ts 0 (is.map fun i => i.1) = T at ht
  cases T with
  | nil => exact hm.2.2.1
  | cons t0 r =>
    refine ae_hp_map (f := ae_tm (t0 :: r) is q.2.2.2) (fun m => ?_) hm.2.2.1 (fun m hmm => ?_)
    · unfold ae_tm
      split
      · exact ⟨rfl, rfl, rfl⟩
      · exact ⟨rfl, rfl, rfl⟩
    · have e0 := hm.2.2.1.2.1 m hmm
      unfold ae_tm
      split
      · rename_i a ha
        obtain ⟨t, h1, h2⟩ := List.exists_of_findSome?_eq_some ha
        obtain ⟨i, g1, h2⟩ := Option.bind_eq_some_iff.mp h2
        obtain ⟨b, g2, h2⟩ := Option.bind_eq_some_iff.mp h2
        obtain ⟨hb, h2⟩ := ae_bif h2
        cases h2
        simp only [Bool.and_eq_true, Bool.not_eq_true'] at hb
        obtain ⟨⟨⟨b1, b2⟩, b3⟩, b4⟩ := hb
        obtain ⟨x, x1, v, x2, x3⟩ := ae_tx_at hx g1
        obtain ⟨y, y1, y2⟩ := ae_dns_at hd g2
        have e : x = y := ht t h1 x y x1 y1
        rw [b1] at x2
        have x2 : ae_cell L xs h i.1.2.1 i.1.2.2.1 = some v := x2
        obtain ⟨j, v0, j1, j2, j3⟩ := e0
        have j4 := ae_kc_ok b3 j1
        rw [ae_ie_ok b4] at j4
        have j5 : j = i.1.2.2.1 := by omega
        refine ⟨j, v, j1, by rw [j5, ← Nat.eq_of_beq_eq_true b2]; exact x2, ?_⟩
        rcases x3 with ⟨t0, z, rfl, hz⟩ | ⟨t0, z, rfl, hz⟩
        · show ae_ok q.1.1 ρ (i.1.2.2.2.1, 0, b) _
          rw [t0]; exact ⟨z, rfl, by rw [hz, e]; exact y2⟩
        · show ae_ok q.1.1 ρ (i.1.2.2.2.1, 0, b) _
          rw [t0]; exact ⟨z, rfl, by rw [hz, e]; exact y2⟩
      · exact e0
/-- at a head's first reaching -/
noncomputable def ae_tn (k : ae_K) (M : List ae_M) (lv : ae_L) (is : List (ae_Tg × ae_X)) (T : List (Nat × Nat)) : Bool := match T with
  | [] => true
  | t :: r => match ae_ib2 k M lv is with
    | some ws => ae_tz k (t :: r) ws
    | none => false
theorem ae_tn_ok {ρ : Nat → Int} {k : ae_K} {M : List ae_M} {lv : ae_L} (hK : ae_okK ρ k) (hH : ae_hp ex k.1 ρ L xs M h) (hl : ae_lr k.1 ρ lv lw) {is : List (ae_Tg × ae_X)} {T : List (Nat × Nat)} (hw : ∀ i ∈ is, ae_wt k.1 i.2.2) (h0 : ∃ zs, ae_tx ρ k.1 L xs lw h is zs) (q : ae_tn k M lv is T = true) : ∃ zs, ae_tx ρ k.1 L xs lw h is zs ∧ ae_tp T zs := by
  unfold ae_tn at q
  split at q
  · obtain ⟨zs, g⟩ := h0
    exact ⟨zs, g, fun t ht => absurd ht List.not_mem_nil⟩
  · split at q
    · rename_i ws hws
      exact ⟨_, ae_ib2_ok hK hH hl hw hws, ae_tz_ok hK q⟩
    · cases q
end AEU

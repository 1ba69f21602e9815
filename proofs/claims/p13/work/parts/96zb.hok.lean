/-! What is known of both threads at once is right -/
noncomputable def aq_M (L : Nat) (xs : Nat → Int32) (h : List am_E) : Prop := ∀ j, j < 900 → ae_cell L xs h 223 j = ae_cell L xs h 4 j
section AQH
variable {L : Nat} {xs : Nat → Int32} {ρ : Nat → Int} {g1 g2 : ap_cT} {h1 h2 : List am_E} {Q : Option Value → Option Value → List am_E → List am_E → Prop} {mo : ae_Mo}
theorem aq_top_ff {n : Nat} {f : ap_F} {r : List ap_F} {g : ap_cT} (h : ap_ff n ρ (f :: r) g.1) : ∃ c cs, g.1 = c :: cs ∧ ap_f1 n ρ f c ∧ ap_ff n ρ r cs := by
  obtain ⟨gf, gv⟩ := g
  cases gf with
  | nil => exact absurd h id
  | cons c cs => exact ⟨c, cs, rfl, h.1, h.2⟩
theorem aq_mir_ok (hr : ae_rok = true) {z : ap_St} {o : List ap_St} (q : aq_mir z = some o) (S : ap_sat (aq_M L xs) L xs ρ z g1 g2 h1 h2) : ∃ z' ∈ o, ∃ ρ', ae_up2 ρ z.k ρ' z'.k ∧ ap_sat (aq_M L xs) L xs ρ' z' g1 g2 h1 h2 := by
  obtain ⟨S1, S2, S3, S4, S5, S6, S7, S8, S9⟩ := S
  unfold aq_mir at q
  split at q
  · rename_i f r hf
    split at q
    · rename_i i t hi
      obtain ⟨hb, q⟩ := ae_bif q
      rw [Bool.and_eq_true] at hb
      have T := S6.1
      rw [hf] at T
      obtain ⟨c, cs, -, F, -⟩ := aq_top_ff T
      have F5 := F.2.2.2.2
      rw [hi] at F5
      cases hw : c.2.2.2.2 with
      | nil => rw [hw] at F5; exact absurd F5 id
      | cons w ws =>
        rw [hw] at F5
        obtain ⟨x, -, d⟩ := ae_ok0 F5.1 hb.1
        have rg := ae_rg_ok S1 hb.2
        rw [d.2] at rg
        have dj : ae_dn z.k.1 ρ i.2.2 ((x.toInt.toNat : Nat) : Int) := by
          have : ((x.toInt.toNat : Nat) : Int) = x.toInt := by omega
          rw [this]; exact d
        split at q
        · cases q
          exact ⟨z, List.mem_singleton.mpr rfl, ρ, ⟨Nat.le_refl _, ae_ag_rf _ _, S1⟩, S1, S2, S3, S4, S5, S6, S7, S8, S9⟩
        · obtain ⟨⟨k1, M1, v1⟩, e1, q⟩ := Option.bind_eq_some_iff.mp q
          cases q
          have hj : x.toInt.toNat < 900 := by omega
          obtain ⟨v, hv⟩ := ae_cell_ex (L := L) (xs := xs) S4.1 (p := 4) (j := x.toInt.toNat) (by decide) (by decide) (by show x.toInt.toNat < 900; exact hj)
          obtain ⟨ρ', u, H, g⟩ := ae_ld_ok hr S1 S4 dj hv (fun _ => ⟨by decide, by show x.toInt.toNat < 900; exact hj⟩) e1
          have hv2 : ae_cell L xs (am_mX2 ap_b false h1 h2) 223 x.toInt.toNat = some v := (S9 _ hj).trans hv
          have dk := ae_dn_ext u.1 u.2.1 (ae_nr_dn S1 dj)
          have H2 := ae_hp_add (A := [(223, ae_nr z.k i.2.2, v1, false)]) H (fun m hm => by
            rw [List.mem_singleton.mp hm]
            exact ⟨x.toInt.toNat, v, dk, hv2, g⟩)
          exact ⟨_, List.mem_singleton.mpr rfl, ρ', u, u.2.2, ae_k0_up S2 u, ap_clk_ext u.1 u.2.1 S3, H2, ap_tt_ext u.1 u.2.1 S5, ap_tt_ext u.1 u.2.1 S6, S7, S8, S9⟩
    · cases q
  · cases q
theorem aq_bys_ok {k : ae_K} {M : List ae_M} {f : ae_X} {h : List am_E} {fv : Int} (hK : ae_okK ρ k) (H : ae_hp true k.1 ρ L xs M h) (hf : ae_ev ρ f = fv) : ∀ (n : Nat) (l : List ae_X), aq_bys k M f n = some l → l.length = n ∧ aq_let (l.map (ae_ev ρ)) = true ∧ (∀ e ∈ l, ae_wt k.1 e.2) ∧ ∀ (i : Nat) (e : ae_X), l[i]? = some e → aq_by L xs h (fv + (i : Int)) = ae_ev ρ e
  | 0, l, q => by
    cases q
    exact ⟨rfl, rfl, fun e he => absurd he List.not_mem_nil, fun i e he => by cases he⟩
  | n + 1, l, q => by
    obtain ⟨m, e1, q⟩ := Option.bind_eq_some_iff.mp q
    obtain ⟨hb, q⟩ := ae_bif q
    obtain ⟨l0, e2, q⟩ := Option.bind_eq_some_iff.mp q
    cases q
    rw [Bool.and_eq_true] at hb
    obtain ⟨i1, i2, i3, i4⟩ := aq_bys_ok hK H hf n l0 e2
    have m1 := List.mem_of_find?_eq_some e1
    have m2 := List.find?_some e1
    rw [Bool.and_eq_true] at m2
    obtain ⟨j, v, c1, c2, c3⟩ := H.2.1 m m1
    obtain ⟨y, rfl, d⟩ := ae_ok0 c3 hb.1
    have rg := ae_rg_ok hK hb.2
    have ix := ae_rg_ok hK m2.2
    rw [ae_sub_ev, ae_pls_ev, c1.2, hf] at ix
    rw [Nat.eq_of_beq_eq_true m2.1] at c2
    have hby : aq_by L xs h (fv + (n : Int)) = ae_ev ρ m.2.2.1.2.2 := by
      unfold aq_by
      have : (fv + (n : Int)).toNat = j := by omega
      rw [this, c2, d.2]
      rfl
    refine ⟨by rw [List.length_append, i1]; rfl, ?_, fun e he => ?_, fun i e he => ?_⟩
    · unfold aq_let at i2 ⊢
      rw [List.map_append, List.all_append, i2]
      show (true && ((decide (97 ≤ ae_ev ρ m.2.2.1.2.2) && decide (ae_ev ρ m.2.2.1.2.2 ≤ 122)) && true)) = true
      rw [decide_eq_true rg.1, decide_eq_true rg.2]; rfl
    · rcases List.mem_append.mp he with he | he
      · exact i3 e he
      · rw [List.mem_singleton.mp he]; exact d.1
    · rcases Nat.lt_or_ge i l0.length with h3 | h3
      · rw [List.getElem?_append_left h3] at he
        exact i4 i e he
      · rw [List.getElem?_append_right h3] at he
        have h4 : i - l0.length = 0 := by
          rcases Nat.eq_zero_or_pos (i - l0.length) with h5 | h5
          · exact h5
          · rw [List.getElem?_eq_none (by show 1 ≤ i - l0.length; omega)] at he; cases he
        rw [h4] at he
        cases he
        have : i = n := by omega
        rw [this]; exact hby
theorem aq_rd_of {b : Int → Int} : ∀ {u : List Int} {a : Int}, (∀ (i : Nat) (e : Int), u[i]? = some e → b (a + (i : Int)) = e) → aq_rd b a u
  | [], _, _ => trivial
  | x :: u, a, h => by
    refine ⟨?_, aq_rd_of (fun i e he => ?_)⟩
    · have := h 0 x rfl
      rw [show a + ((0 : Nat) : Int) = a by omega] at this
      exact this
    · have := h (i + 1) e he
      rw [show a + ((i + 1 : Nat) : Int) = a + 1 + (i : Int) by omega] at this
      exact this
theorem aq_eqs_ok {n : Nat} : ∀ {es : List ae_X} {w : List Int}, (∀ e ∈ es, ae_wt n e.2) → es.map (ae_ev ρ) = w → ∀ e ∈ aq_eqs es w, ae_wt n e.2 ∧ ae_ev ρ e ≤ 0
  | [], w, _, h, e, he => by cases w <;> exact absurd he List.not_mem_nil
  | x :: es, [], _, h, e, he => by cases h
  | x :: es, c :: w, hw, h, e, he => by
    rw [List.map_cons] at h
    injection h with h1 h2
    rcases List.mem_cons.mp he with rfl | he
    · exact ⟨hw x List.mem_cons_self, by rw [ae_pls_ev]; omega⟩
    · rcases List.mem_cons.mp he with rfl | he
      · have := ae_neg_dn (n := n) (ρ := ρ) (a := x) (x := ae_ev ρ x) ⟨hw x List.mem_cons_self, rfl⟩ c
        exact ⟨this.1, by rw [this.2]; omega⟩
      · exact aq_eqs_ok (fun e he => hw e (List.mem_cons_of_mem _ he)) h2 e he
theorem aq_cx_wt {n : Nat} : ∀ (es : List ae_X) (a : ae_X), ae_wt n a.2 → (∀ e ∈ es, ae_wt n e.2) → ae_wt n (es.foldl (fun a b => ae_add (ae_scl 32 a) (ae_pls b (-96))) a).2
  | [], _, h, _ => h
  | e :: r, a, h, g => by
    refine aq_cx_wt r _ ?_ (fun e he => g e (List.mem_cons_of_mem _ he))
    have d1 := ae_scl_dn (n := n) (ρ := fun _ => 0) (a := a) (x := ae_ev (fun _ => 0) a) ⟨h, rfl⟩ 32
    have d2 := ae_pls_dn (n := n) (ρ := fun _ => 0) (a := e) (x := ae_ev (fun _ => 0) e) ⟨g e List.mem_cons_self, rfl⟩ (-96)
    exact (ae_add_dn d1 d2).1

theorem aq_wd_ok (hr : ae_rok = true) (hf : ae_fok = true) (hL : L ≤ 3072) (hG : ∀ h h', aq_M L xs h → ae_fr mo L xs h h' → aq_M L xs h') {z : ap_St} {o : List ap_St} (q : aq_wd z = some o) (S : ap_sat (aq_M L xs) L xs ρ z g1 g2 h1 h2) :
    ∃ z' ∈ o, ∃ g1' h1', ae_up2 ρ z.k ρ z'.k ∧ ap_sat (aq_M L xs) L xs ρ z' g1' g2 h1' h2 ∧ (ap_end mo L xs Q g1' g2 h1' h2 → ap_end mo L xs Q g1 g2 h1 h2) := by
  have S' := S
  obtain ⟨S1, S2, S3, S4, S5, S6, S7, S8, S9⟩ := S
  unfold aq_wd at q
  split at q
  · rename_i f r hfr
    split at q
    · rename_i a rr hst
      split at q
      · rename_i mp mn hmp hmn
        obtain ⟨hb, q⟩ := ae_bif q
        simp only [Bool.and_eq_true] at hb
        obtain ⟨⟨⟨⟨⟨⟨⟨⟨⟨⟨⟨b1, b2⟩, b3⟩, b4⟩, b5⟩, b6⟩, b7⟩, b8⟩, b9⟩, b10⟩, b11⟩, b12⟩ := hb
        have b1 := Nat.eq_of_beq_eq_true b1
        have b2 := Nat.eq_of_beq_eq_true b2
        have b5 := Nat.eq_of_beq_eq_true b5
        have b6 := Nat.eq_of_beq_eq_true b6
        have b7 := Nat.le_of_ble_eq_true b7
        have T := S5.1
        rw [hfr] at T
        obtain ⟨c, cs, hg, F, Fs⟩ := aq_top_ff T
        have e2 : c.2.1 = 55 := F.2.1.symm.trans b1
        have e3 : c.2.2.1 = 69 := F.2.2.1.symm.trans b2
        have F1 := F.1
        have F4 := F.2.2.2.1
        have F5 := F.2.2.2.2
        clear F
        obtain ⟨d, y, pc, lw, sw⟩ := c
        have e2 : y = 55 := e2
        have e3 : pc = 69 := e3
        subst e2; subst e3
        have F1 : f.1 ≤ d := F1
        have F4 : ae_lr z.k.1 ρ f.2.2.2.1 lw := F4
        have F5 : ae_sr z.k.1 ρ f.2.2.2.2 sw := F5
        rw [hst] at F5
        match sw, F5 with
        | [], F5 => exact absurd F5 id
        | [_], F5 => exact absurd F5.2 id
        | _ :: _ :: _ :: _, F5 => exact absurd F5.2.2 id
        | [w1, w2], F5 =>
        obtain ⟨v, rfl, dv⟩ := ae_ok0 F5.1 b4
        have hw2 := ae_ok2 F5.2.1 (by rw [b5]; rfl)
        rw [b6] at hw2
        subst hw2
        obtain ⟨d', rfl⟩ : ∃ d', d = d' + 1 := ⟨d - 1, by omega⟩
        -- where the word begins and ends
        have cl : ∀ m ∈ z.m, m.2.2.2 = false := fun m hm => by have := List.all_eq_true.mp b3 m hm; simpa using this
        have hk : ae_hk true L xs (am_mX2 ap_b false h1 h2) := ae_hk_of hf (fun e => e) S4 (fun p j dd => by
          obtain ⟨m, m1, m2, -, -⟩ := dd
          rw [cl m m1] at m2
          cases m2)
        have C : aq_cf L xs (am_mX2 ap_b false h1 h2) h1 h2 := ⟨hk, S7, S8, fun _ _ => rfl⟩
        have cellof : ∀ {m : ae_M} {p j : Nat}, ae_fd z.m p (ae_num (j : Int)) = some m → Nat.beq m.2.2.1.1 0 = true → ∃ x : Int32, ae_cell L xs (am_mX2 ap_b false h1 h2) p j = some (.int x) ∧ x.toInt = ae_ev ρ m.2.2.1.2.2 := by
          intro m p j hm hb
          obtain ⟨f1, f2, f3⟩ := ae_fd_ok hm
          obtain ⟨j', v', e1, e2, e3⟩ := S4.2.1 m f1
          rw [f3] at e1
          have e1 := e1.2
          have : ae_ev ρ (ae_num (j : Int)) = (j : Int) := (ae_num_dn (n := 0) (ρ := ρ) (j : Int)).2
          rw [this] at e1
          have : j' = j := by omega
          rw [f2, this] at e2
          obtain ⟨x, rfl, dx⟩ := ae_ok0 e3 hb
          exact ⟨x, e2, dx.2.symm⟩
        have hp := cellof hmp b8
        have hn := cellof hmn b9
        have hz1 := ae_z_ok S1 b10
        have hz2 := ae_z_ok S1 b11
        have hz3 := ae_z_ok S1 b12
        rw [ae_neg_ev] at hz1
        rw [ae_sub_ev] at hz2
        rw [ae_pls_ev] at hz3
        generalize hpl : ae_ev ρ mp.2.2.1.2.2 = pl at hp hz2
        generalize hnl : ae_ev ρ mn.2.2.1.2.2 = n at hn hz2 hz3
        generalize hfv : ae_ev ρ a.2.2 = fv at hz1
        have hv : v.toInt = fv := by rw [← hfv]; exact dv.2.symm
        have hdv : ae_ev ρ (ae_nr z.k (ae_sub mp.2.2.1.2.2 a.2.2)) = pl - fv := by
          have h3 : ae_wt z.k.1 (ae_sub mp.2.2.1.2.2 a.2.2).2 := by
            obtain ⟨f1, -, -⟩ := ae_fd_ok hmp
            obtain ⟨j0, v0, -, -, e3⟩ := S4.2.1 mp f1
            obtain ⟨x, -, dx⟩ := ae_ok0 e3 b8
            exact (ae_sub_dn dx dv).1
          have h4 := (ae_nr_dn S1 (⟨h3, rfl⟩ : ae_dn z.k.1 ρ (ae_sub mp.2.2.1.2.2 a.2.2) _)).2
          rw [h4, ae_sub_ev, hpl, hfv]
        have byr : ∀ j : Nat, j < 900 → ∃ x : Int32, ae_cell L xs (am_mX2 ap_b false h1 h2) 4 j = some (.int x) ∧ -128 ≤ x.toInt ∧ x.toInt ≤ 127 := by
          intro j hj
          obtain ⟨v', hv'⟩ := ae_cell_ex (L := L) (xs := xs) S4.1 (p := 4) (j := j) (by decide) (by decide) (by show j < 900; exact hj)
          rcases hk.2.1 4 j v' (by decide) hv' with g | g
          · obtain ⟨x, rfl, x1, x2⟩ : ae_io (0, -128, 127) v' := g
            exact ⟨x, hv', x1, x2⟩
          · have g2 := g.2; rw [ae_ine_ne (p := 4) (by decide) j] at g2; cases g2
        -- the answer, whatever it is
        have fin : ∀ {R : Int} {k' : ae_K} {cl' : List (List ae_X)}, fv ≤ pl → aq_kwr (aq_by L xs (am_mX2 ap_b false h1 h2)) fv pl am_wl fv 0 true = R → ae_okK ρ k' → k'.1 = z.k.1 → ap_clk z.k.1 ρ cl' →
            (⟨k', cl', z.m, ((f.1, f.2.1, f.2.2.1 + 3, f.2.2.2.1, [(0, 0, ae_num R)]) :: r, none), z.t2⟩ : ap_St) ∈ o →
            ∃ z' ∈ o, ∃ g1' h1', ae_up2 ρ z.k ρ z'.k ∧ ap_sat (aq_M L xs) L xs ρ z' g1' g2 h1' h2 ∧ (ap_end mo L xs Q g1' g2 h1' h2 → ap_end mo L xs Q g1 g2 h1 h2) := by
          intro R k' cl' hle hR hK' hn' hC' hm
          obtain ⟨m, x, h', w1, w2, w3, sm⟩ := aq_wn hr hf hL hv (⟨hp, hn, by omega, hle, by omega, by omega, byr⟩ : aq_wc L xs (am_mX2 ap_b false h1 h2) fv pl n) (d := d') (by omega) C
          rw [hR] at w2
          have hG0 : ae_fr mo L xs (am_mX2 ap_b false h1 h2) (am_mX2 ap_b false h' h2) := fun p j _ => w3.2.2.2 p j
          refine ⟨_, hm, ((d' + 1, 55, 72, lw, [.int x]) :: cs, none), h', ⟨by rw [hn']; exact Nat.le_refl _, ae_ag_rf _ _, hK'⟩, ⟨hK', ⟨by rw [hn']; exact S2.1, S2.2⟩, by rw [hn']; exact hC', ?_, ⟨⟨⟨F1, b1, by show f.2.2.1 + 3 = 72; rw [b2], by rw [hn']; exact F4, ?_⟩, by rw [hn']; exact Fs⟩, fun e => by cases e⟩, by rw [hn']; exact S6, w3.2.1, S8, hG _ _ S9 hG0⟩, fun ⟨v1, e1, v2, e2, z1, z2, z3, z4, z5, z6⟩ => ?_⟩
          · rw [hn']
            have := ae_hp_add (A := z.m) (ae_hp_of (ρ := ρ) z.k.1 w3.1) (fun m hm => by
              obtain ⟨j, v', e1, e2, e3⟩ := S4.2.1 m hm
              exact ⟨j, v', e1, (w3.2.2.2 _ _).trans e2, e3⟩)
            rwa [List.append_nil] at this
          · refine ⟨⟨x, rfl, ?_⟩, trivial⟩
            rw [w2]
            exact ae_num_dn R
          · refine ⟨v1, e1, v2, e2, ?_, z2, ap_sm_tr sm z3, z4, ae_fr_tr hG0 z5, z6⟩
            unfold ap_run
            rw [hg]
            have z1 : am_fn L xs (d' + 1, 55, 72, lw, [.int x]) cs h' (v1, e1) := z1
            refine am_fn_of (f' := (d' + 1, 55, 72, lw, [.int x])) (h' := h') (fun n' x' hg' => ⟨m + n' + 1, ?_⟩) z1
            refine am_st3 (i := .invokevirtual 84) (a := 56) (b := 1) (r := some (.int x)) rfl rfl rfl rfl ?_ w1 hg'
            have hrc := ae_rcv_ok (i := .invokevirtual 84) (a := 56) (own := 6) (n := z.k.1) (ρ := ρ) S7.1 (s := [(2, 3, (0, [])), a]) (t := [.ref 3, .int v]) ⟨rfl, F5.1, trivial⟩ rfl
            show (Nat.ble 2 2 && Nat.ble 0 8 && am_rcv (.invokevirtual 84) 56 [.ref 3, .int v] h1 6 && _) = true
            rw [hrc]
            rfl
        have res : ∀ {R : Int}, aq_kwr (aq_by L xs (am_mX2 ap_b false h1 h2)) fv pl am_wl fv 0 true = R → (R = -1 ∧ ∀ w ∈ aq_kw, ¬ aq_mw (aq_by L xs (am_mX2 ap_b false h1 h2)) pl fv w) ∨ ∃ (k : Nat) (w : List Int), aq_kw[k]? = some w ∧ aq_mw (aq_by L xs (am_mX2 ap_b false h1 h2)) pl fv w ∧ R = 0 + (k : Int) := by
          intro R hR
          rw [aq_wl_eq] at hR
          exact aq_kwr_ws aq_kw 0 R aq_kw_let hR
        generalize hdd : ae_nr z.k (ae_sub mp.2.2.1.2.2 a.2.2) = dd at q hdv
        have q : (bif ae_z z.k (ae_neg dd 9) then some [⟨z.k, z.cl, z.m, ((f.1, f.2.1, f.2.2.1 + 3, f.2.2.2.1, [(0, 0, ae_num (-1))]) :: r, none), z.t2⟩]
           else bif ae_kc dd && ae_le 1 dd.1 && ae_le dd.1 8 then (aq_bys z.k z.m a.2.2 dd.1.toNat).bind fun bs =>
             some (((List.range 32).flatMap fun w => bif Nat.beq (aq_kw.getD w []).length dd.1.toNat then (ae_ask z.k (aq_eqs bs (aq_kw.getD w []))).map fun k' => ⟨k', z.cl, z.m, ((f.1, f.2.1, f.2.2.1 + 3, f.2.2.2.1, [(0, 0, ae_num (w : Int))]) :: r, none), z.t2⟩ else [])
               ++ [⟨z.k, (aq_kw.filter fun w => Nat.beq w.length dd.1.toNat).map (fun w => [ae_pls (aq_cx bs) (1 - aq_code w), ae_neg (aq_cx bs) (aq_code w + 1)]) ++ z.cl, z.m, ((f.1, f.2.1, f.2.2.1 + 3, f.2.2.2.1, [(0, 0, ae_num (-1))]) :: r, none), z.t2⟩])
           else none) = some o := q
        cases hc9 : ae_z z.k (ae_neg dd 9) with
        | true =>
          rw [hc9] at q
          cases q
          have h9 := ae_z_ok S1 hc9
          rw [ae_neg_ev, hdv] at h9
          rcases res rfl with ⟨h5, -⟩ | ⟨k, w, h5, h6, -⟩
          · exact fin (by omega) h5 S1 rfl S3 (List.mem_singleton.mpr rfl)
          · have h7 := aq_mw_len h6
            have h8 := aq_kw_len.2 w (List.mem_of_getElem? h5)
            omega
        | false =>
          rw [hc9] at q
          obtain ⟨hb, q⟩ := ae_bif (show (bif ae_kc dd && ae_le 1 dd.1 && ae_le dd.1 8 then _ else none) = some o from q)
          obtain ⟨bs, e1, q⟩ := Option.bind_eq_some_iff.mp q
          cases q
          simp only [Bool.and_eq_true] at hb
          have l1 := ae_le_iff.mp hb.1.2
          have l2 := ae_le_iff.mp hb.2
          have hd1 : dd.1 = pl - fv := by
            rw [← hdv]
            have := hb.1.1
            unfold ae_kc at this
            unfold ae_ev
            revert this
            cases dd.2 with
            | nil => intro _; exact (Int.add_zero _).symm
            | cons _ _ => intro h; cases h
          obtain ⟨i1, i2, i3, i4⟩ := aq_bys_ok S1 S4 hfv dd.1.toNat bs e1
          have rd : aq_rd (aq_by L xs (am_mX2 ap_b false h1 h2)) fv (bs.map (ae_ev ρ)) := by
            refine aq_rd_of (fun i e he => ?_)
            rw [List.getElem?_map] at he
            cases hbi : bs[i]? with
            | none => rw [hbi] at he; cases he
            | some x =>
              rw [hbi] at he
              have he : some (ae_ev ρ x) = some e := he
              cases he
              exact i4 i x hbi
          have hlm : (bs.map (ae_ev ρ)).length = dd.1.toNat := by rw [List.length_map]; exact i1
          rcases res rfl with ⟨h5, h6⟩ | ⟨k, w, h5, h6, h7⟩
          · refine fin (by omega) h5 S1 rfl (fun c hc => ?_) (List.mem_append_right _ (List.mem_singleton.mpr rfl))
            rcases List.mem_append.mp hc with hc | hc
            · obtain ⟨w, hw, rfl⟩ := List.mem_map.mp hc
              obtain ⟨hw1, hw2⟩ := List.mem_filter.mp hw
              have hw2 := Nat.eq_of_beq_eq_true hw2
              have wt : ae_wt z.k.1 (aq_cx bs).2 := aq_cx_wt bs (ae_num 0) trivial i3
              have evc : ae_ev ρ (aq_cx bs) = (bs.map (ae_ev ρ)).foldl (fun a b => a * 32 + (b - 96)) 0 := aq_cx_ev ρ bs (ae_num 0)
              have ne : ae_ev ρ (aq_cx bs) ≠ aq_code w := by
                intro e
                rw [evc] at e
                have h8 := (aq_code_inj i2 (aq_kw_let w hw1) (by rw [hlm, hw2]) e).2
                refine h6 w hw1 ?_
                rw [← h8]
                exact aq_rd_mw rd (by rw [hlm]; omega)
              refine ⟨fun e he => ?_, ?_⟩
              · simp only [List.mem_cons, List.not_mem_nil, or_false] at he
                rcases he with rfl | rfl
                · exact wt
                · exact ae_mt_wt _ wt
              · rcases Int.lt_or_gt_of_ne ne with h9 | h9
                · exact ⟨_, List.mem_cons_self, by rw [ae_pls_ev]; omega⟩
                · exact ⟨_, List.mem_cons_of_mem _ List.mem_cons_self, by rw [ae_neg_ev]; omega⟩
            · exact S3 c hc
          · have h8 := aq_mw_len h6
            have h9 : bs.map (ae_ev ρ) = w := aq_mw_rd h6 rd (by rw [hlm]; omega)
            obtain ⟨k', m', K', n'⟩ := ae_ask_ok (es := aq_eqs bs w) S1 (aq_eqs_ok i3 h9)
            have hk32 : k < 32 := by
              have := (List.getElem?_eq_some_iff.mp h5).1
              rw [aq_kw_len.1] at this
              exact this
            have hget : aq_kw.getD k [] = w := by rw [List.getD_eq_getElem?_getD, h5]; rfl
            refine fin (R := (k : Int)) (k' := k') (by omega) (by rw [h7]; omega) K' n' S3 (List.mem_append_left _ (List.mem_flatMap.mpr ⟨k, List.mem_range.mpr hk32, ?_⟩))
            rw [hget]
            have hlw : Nat.beq w.length dd.1.toNat = true := by
              have : w.length = dd.1.toNat := by omega
              rw [this, Nat.beq_refl]
            rw [hlw]
            exact List.mem_map.mpr ⟨k', m', rfl⟩
      · cases q
    · cases q
  · cases q
end AQH
section AQH2
variable {L : Nat} {xs : Nat → Int32} {Q : Option Value → Option Value → List am_E → List am_E → Prop}
theorem aq_hk_ok (hr : ae_rok = true) (hf : ae_fok = true) (hL : L ≤ 3072) {W : ap_W} (hG : ∀ h h', aq_M L xs h → ae_fr W.p.mo L xs h h' → aq_M L xs h') (hW : W.hk = aq_hk) : ap_HOK W (aq_M L xs) L xs Q := by
  intro z o ρ g1 g2 h1 h2 q S
  rw [hW] at q
  unfold aq_hk at q
  cases hb : aq_top z.t1 55 69 with
  | true =>
    rw [hb] at q
    obtain ⟨z', m, g1', h1', u, S', e⟩ := aq_wd_ok (Q := Q) hr hf hL hG q S
    exact ⟨z', m, ρ, g1', g2, h1', h2, u, S', e⟩
  | false =>
    rw [hb] at q
    obtain ⟨z', m, ρ', u, S'⟩ := aq_mir_ok hr q S
    exact ⟨z', m, ρ', g1, g2, h1, h2, u, S', fun e => e⟩
end AQH2

/-! What is known of both while a text is read: the tokens, and which one is looked at -/
noncomputable def ac_G (L : Nat) (xs : Nat → Int32) (b : Nat → Option Value) (n T : Int) (P : Nat → Int) (h : List am_E) : Prop :=
  (∀ j, j < 900 → ae_cell L xs h 223 j = b j) ∧ aq_ci L xs h 219 9 = n ∧ ac_lex L xs b n h T P ∧ ∃ i : Nat, (i : Int) < T ∧ aq_ci L xs h 3 5 = (i : Int) + 1 ∧ aq_ci L xs h 219 16 = P (i + 1) ∧ ac_cur L xs h (aq_ci L xs h 5 i) (aq_ci L xs h 6 i) (aq_cj L xs h 7 i) ∧ aq_tokh L xs h (aq_ci L xs h 5 i) (aq_ci L xs h 6 i) (aq_cj L xs h 7 i)
/-- nothing of that is written -/
noncomputable def ac_gfr (mo : ae_Mo) : Prop := (∀ j, ae_inm mo 223 j = false) ∧ (∀ j, ae_inm mo 5 j = false) ∧ (∀ j, ae_inm mo 6 j = false) ∧ (∀ j, ae_inm mo 7 j = false) ∧ (∀ j ∈ [4, 5, 6, 11, 12, 13, 14, 15, 16], ae_inm mo 3 j = false) ∧ ∀ j ∈ [9, 14, 15, 16, 17, 18, 19], ae_inm mo 219 j = false
theorem aq_ci_fr {L : Nat} {xs : Nat → Int32} {mo : ae_Mo} {h h' : List am_E} (f : ae_fr mo L xs h h') {p j : Nat} (q : ae_inm mo p j = false) : aq_ci L xs h' p j = aq_ci L xs h p j := by unfold aq_ci; rw [f p j q]
theorem aq_cj_fr {L : Nat} {xs : Nat → Int32} {mo : ae_Mo} {h h' : List am_E} (f : ae_fr mo L xs h h') {p j : Nat} (q : ae_inm mo p j = false) : aq_cj L xs h' p j = aq_cj L xs h p j := by unfold aq_cj; rw [f p j q]
section ACG
variable {L : Nat} {xs : Nat → Int32} {b : Nat → Option Value} {n T : Int} {P : Nat → Int}
theorem ac_lex_eq {h h' : List am_E} (e4 : aq_ci L xs h' 3 4 = aq_ci L xs h 3 4) (e6 : aq_ci L xs h' 3 6 = aq_ci L xs h 3 6) (a5 : ∀ j, aq_ci L xs h' 5 j = aq_ci L xs h 5 j) (a6 : ∀ j, aq_ci L xs h' 6 j = aq_ci L xs h 6 j) (a7 : ∀ j, aq_cj L xs h' 7 j = aq_cj L xs h 7 j) (q : ac_lex L xs b n h T P) : ac_lex L xs b n h' T P := by
  obtain ⟨x1, x2, x3, x4, ⟨x5, x6⟩, x7⟩ := q
  refine ⟨e4.trans x1, e6.trans x2, x3, x4, ⟨x5, fun i hi => ?_⟩, fun i hi => ?_⟩
  · rw [a5, a6, a7]; exact x6 i hi
  · rw [a5]; exact x7 i hi
theorem ac_G_fr {mo : ae_Mo} (w : ac_gfr mo) {h h' : List am_E} (q : ac_G L xs b n T P h) (f : ae_fr mo L xs h h') : ac_G L xs b n T P h' := by
  obtain ⟨w1, w2, w3, w4, w5, w6⟩ := w
  have a5 : ∀ j, aq_ci L xs h' 5 j = aq_ci L xs h 5 j := fun j => aq_ci_fr f (w2 j)
  have a6 : ∀ j, aq_ci L xs h' 6 j = aq_ci L xs h 6 j := fun j => aq_ci_fr f (w3 j)
  have a7 : ∀ j, aq_cj L xs h' 7 j = aq_cj L xs h 7 j := fun j => aq_cj_fr f (w4 j)
  have c3 : ∀ j ∈ [4, 5, 6, 11, 12, 13, 14, 15, 16], aq_ci L xs h' 3 j = aq_ci L xs h 3 j := fun j hj => aq_ci_fr f (w5 j hj)
  have c9 : ∀ j ∈ [9, 14, 15, 16, 17, 18, 19], aq_ci L xs h' 219 j = aq_ci L xs h 219 j := fun j hj => aq_ci_fr f (w6 j hj)
  obtain ⟨q1, q2, q3, i, q4, q5, q6, q7, q8⟩ := q
  refine ⟨fun j hj => (f 223 j (w1 j)).trans (q1 j hj), by rw [c9 9 (by decide)]; exact q2, ac_lex_eq (c3 4 (by decide)) (c3 6 (by decide)) a5 a6 a7 q3, i, q4, by rw [c3 5 (by decide)]; exact q5, by rw [c9 16 (by decide)]; exact q6, ?_, ?_⟩
  · unfold ac_cur at q7 ⊢
    rw [c3 11 (by decide), c3 12 (by decide), c3 13 (by decide), c3 14 (by decide), c3 16 (by decide), aq_cj_fr f (w5 15 (by decide)), a5, a6, a7]
    exact q7
  · unfold aq_tokh at q8 ⊢
    rw [c9 14 (by decide), c9 15 (by decide), c9 17 (by decide), c9 18 (by decide), aq_cj_fr f (w6 19 (by decide)), a5, a6, a7]
    exact q8
end ACG
/-- behind a piece that keeps the invariants but for what is left out, and leaves that as it was -/
theorem ae_hp_bk {n : Nat} {ρ : Nat → Int} {L : Nat} {xs : Nat → Int32} {M M' : List ae_M} {h h' : List am_E} {mo : ae_Mo} (hf : ae_fok = true) (H : ae_hp false n ρ L xs M h) (k : ae_hk true L xs h') (f : ae_fr mo L xs h h') (hx : ae_mx2 mo = true) (hM : ∀ m ∈ M', ae_eo n ρ L xs h' m) (hd : ∀ m ∈ M, m.2.2.2 = true → m ∈ M') : ae_hp false n ρ L xs M' h' := by
  have dy : ∀ p j, ae_dy ρ M p j → ae_dy ρ M' p j := fun p j ⟨m, m1, m2, m3⟩ => ⟨m, hd m m1 m2, m2, m3⟩
  refine ⟨k.1, hM, fun p j v hp hc => ?_, fun f' hfm i hi => ?_⟩
  · rcases k.2.1 p j v hp hc with g | ⟨-, g2⟩
    · exact Or.inl g
    · rw [f p j (ae_mx2_ok hx g2)] at hc
      rcases H.2.2.1 p j v hp hc with g | g | g
      · exact Or.inl g
      · exact Or.inr (Or.inl (dy p j g))
      · exact absurd g.1 (by decide)
  · rcases k.2.2 f' hfm i hi with g | ⟨-, g2⟩
    · exact Or.inl g
    · rcases H.2.2.2 f' hfm i hi with g | ⟨o, ho, g⟩ | g
      · refine Or.inl (ae_cl_eq (fun o ho => f _ _ (ae_mx2_ok hx ?_)) g)
        rw [((ae_fok_at hf hfm).2.2.2 o ho i hi).2]
        exact g2
      · exact Or.inr (Or.inl ⟨o, ho, dy _ _ g⟩)
      · exact absurd g.1 (by decide)
theorem ae_hk_bk {L : Nat} {xs : Nat → Int32} {h h' : List am_E} {mo : ae_Mo} (hf : ae_fok = true) (H : ae_hk false L xs h) (k : ae_hk true L xs h') (f : ae_fr mo L xs h h') (hx : ae_mx2 mo = true) : ae_hk false L xs h' := by
  have h1 := ae_hp_bk (M' := []) hf (ae_hp_of (ρ := fun _ => 0) 0 H) k f hx (fun m hm => absurd hm List.not_mem_nil) (fun m hm => absurd hm List.not_mem_nil)
  exact aq_hk_sat hf h1 (fun m hm => absurd hm List.not_mem_nil)
theorem ae_hk_wk {L : Nat} {xs : Nat → Int32} {h : List am_E} (H : ae_hk false L xs h) : ae_hk true L xs h :=
  ⟨H.1, fun p j v hp hc => (H.2.1 p j v hp hc).imp id (fun g => absurd g.1 (by decide)), fun f hf i hi => (H.2.2 f hf i hi).imp id (fun g => absurd g.1 (by decide))⟩
/-- entries whose cells may break their invariants -/
noncomputable def ac_dex (z : ab_St) : Bool := z.m.all fun m => !m.2.2.2 || ae_yx z.k m.1 m.2.1
theorem ac_dex_ok {ρ : Nat → Int} {L : Nat} {xs : Nat → Int32} {k : ae_K} {M : List ae_M} {h : List am_E} (K : ae_okK ρ k) (H : ae_hp false k.1 ρ L xs M h) (q : (M.all fun m => !m.2.2.2 || ae_yx k m.1 m.2.1) = true) : (∀ p j, ae_dy ρ M p j → true = true ∧ ae_ine p j = true) ∧ ∀ m ∈ M, m.2.2.2 = true → m.1 = ae_exp := by
  have key : ∀ m ∈ M, m.2.2.2 = true → ∀ j : Nat, ae_ev ρ m.2.1 = (j : Int) → ae_ine m.1 j = true := fun m hm hd j hj => by
    have h := List.all_eq_true.mp q m hm
    rw [hd] at h
    exact ae_yx_ok K hj (by simpa using h)
  refine ⟨fun p j ⟨m, m1, m2, m3, m4⟩ => ⟨rfl, by rw [← m3]; exact key m m1 m2 j m4⟩, fun m hm hd => ?_⟩
  obtain ⟨j, v, e1, -, -⟩ := H.2.1 m hm
  have h2 := key m hm hd j e1.2
  unfold ae_ine at h2
  simp only [Bool.and_eq_true] at h2
  exact Nat.eq_of_beq_eq_true h2.1.1
/-! both look at the next token -/
noncomputable def ac_tmo : ae_Mo := [(3, 5, 5), (3, 11, 16), (219, 14, 19)]
noncomputable def ac_call (f : ap_F) (a : Nat) : Bool := match am_code f.2.1 f.2.2.1 with
  | some q => (match q.1 with
    | .invokevirtual _ => Nat.beq q.2.1 a && Nat.beq q.2.2 0
    | _ => false)
  | none => false
/-- entries that say nothing of tokens -/
noncomputable def ac_keep (m : ae_M) : Bool := !(Nat.beq m.1 3 || Nat.beq m.1 219) || (ae_kc m.2.1 && !(ae_inm ac_tmo m.1 m.2.1.1.toNat) && ae_nn m.2.1.1)
noncomputable def ac_nx (f : ap_F) (s : List ae_V) (r : List ap_F) : ap_T := ((f.1, f.2.1, f.2.2.1 + 3, f.2.2.2.1, s) :: r, none)
noncomputable def ac_ha2 (N : Int) (z : ab_St) (f1 f2 : ap_F) (s1 s2 : List ae_V) (r1 r2 : List ap_F) : Option (List ab_St) := match ae_fd z.m 3 (ae_num 11) with
  | some ek => (match ae_fd z.m 3 (ae_num 5) with
    | some mn => bif Nat.beq ek.2.2.1.1 0 && ae_rg z.k ek.2.2.1.2.2 1 5 && Nat.beq mn.2.2.1.1 0 then
        some ((ae_ask z.k [ae_pls mn.2.2.1.2.2 (-N)]).map fun k => (ae_new k 0 6, (3, ae_num 11, (0, 0, ae_sym k.1), false) :: (3, ae_num 5, (0, 0, ae_pls mn.2.2.1.2.2 1), false) :: z.m.filter ac_keep, z.o, ab_jn ac_tmo z.w, z.T, ac_nx f1 s1 r1, ac_nx f2 s2 r2)) else none
    | none => none)
  | none => none
noncomputable def ac_ha (N : Int) (z : ab_St) : Option (List ab_St) := match z.t1.1 with
  | f1 :: r1 => (match z.t2.1 with
    | f2 :: r2 => (match f1.2.2.2.2 with
      | a1 :: s1 => (match f2.2.2.2.2 with
        | a2 :: s2 => bif ac_call f1 58 && ac_call f2 219 && Nat.beq a1.1 2 && Nat.beq a1.2.1 3 && Nat.beq a2.1 2 && Nat.beq a2.2.1 219 && Nat.ble 2 f1.1 && Nat.ble 21 f2.1 && Nat.ble (ae_cats s1) 8 && Nat.ble (ae_cats s2) 8 && ac_dex z then ac_ha2 N z f1 f2 s1 s2 r1 r2 else none
        | [] => none)
      | [] => none)
    | [] => none)
  | [] => none
theorem ac_call_ok {f : ap_F} {a : Nat} (q : ac_call f a = true) : ∃ w, am_code f.2.1 f.2.2.1 = some (.invokevirtual w, a, 0) := by
  unfold ac_call at q
  split at q
  · rename_i c hc
    obtain ⟨i, a', b'⟩ := c
    split at q
    · rename_i w hw
      rw [Bool.and_eq_true] at q
      have h1 := Nat.eq_of_beq_eq_true q.1
      have h2 := Nat.eq_of_beq_eq_true q.2
      have hw : i = .invokevirtual w := hw
      have h1 : a' = a := h1
      have h2 : b' = 0 := h2
      exact ⟨w, by rw [hc, hw, h1, h2]⟩
    · cases q
  · cases q
section ACH
variable {L : Nat} {xs : Nat → Int32} {b : Nat → Option Value} {n T : Int} {P : Nat → Int} {Q : Option Value → Option Value → List am_E → List am_E → Prop} {mo : ae_Mo} {ρ : Nat → Int} {g1 g2 : ap_cT} {h1 h2 : List am_E}
/-- a call that is known as a whole -/
theorem ac_ret {f : ap_F} {s : List ae_V} {r : List ap_F} {a0 : ae_V} {t : ap_T} {g : ap_cT} {k : Nat} {a p own : Nat} {h e : List am_E} {dn : Nat} (ht : t.1 = f :: r) (hs : f.2.2.2.2 = a0 :: s) (hc : ac_call f a = true) (h0 : Nat.beq a0.1 2 = true) (hp : Nat.beq a0.2.1 p = true) (hdd : Nat.ble (dn + 1) f.1 = true) (hcat : Nat.ble (ae_cats s) 8 = true) (hA : Nat.ble 1000 a = false) (hown : (am_inf a).1 = own) (ho : ae_isO p own 0 = true) (hnl : Nat.ble 1 (am_inf a).2.2.1 = true) (sh : ae_shp h) (F : ap_tt k ρ t g)
    (hg : ∀ d, dn ≤ d → ∃ n1, am_go L xs n1 d a 0 (lv_args 0 [.ref p]) [] h = some (none, e)) : ∃ g', ap_tt k ρ (ac_nx f s r) g' ∧ ∀ x, ap_run L xs g' e x → ap_run L xs g h x := by
  obtain ⟨gf, gv⟩ := g
  have F1 := F.1
  rw [ht] at F1
  cases gf with
  | nil => exact absurd F1 id
  | cons c cs =>
    obtain ⟨d, y, pc, lw, sw⟩ := c
    obtain ⟨⟨q1, q2, q3, q4, q5⟩, q6⟩ := F1
    have q1 : f.1 ≤ d := q1
    have q2 : f.2.1 = y := q2
    have q3 : f.2.2.1 = pc := q3
    have q5 : ae_sr k ρ f.2.2.2.2 sw := q5
    rw [hs] at q5
    cases sw with
    | nil => exact absurd q5 id
    | cons v sw =>
      obtain ⟨q7, q8⟩ := q5
      have hv : v = .ref p := by
        obtain ⟨a1, a2, a3⟩ := a0
        have e1 : a1 = 2 := Nat.eq_of_beq_eq_true h0
        have e2 : a2 = p := Nat.eq_of_beq_eq_true hp
        rw [e1, e2] at q7
        exact q7
      subst hv
      have hdn := Nat.le_of_ble_eq_true hdd
      obtain ⟨d, rfl⟩ : ∃ d', d = d' + 1 := ⟨d - 1, by omega⟩
      obtain ⟨w, hc⟩ := ac_call_ok hc
      rw [q2, q3] at hc
      obtain ⟨n1, hg⟩ := hg d (by omega)
      refine ⟨((d + 1, y, pc + 3, lw, sw) :: cs, none), ⟨⟨⟨q1, q2, by show f.2.2.1 + 3 = pc + 3; rw [q3], q4, q8⟩, q6⟩, fun e => by cases e⟩, fun x hx => ?_⟩
      subst hown
      have hx : am_fn L xs (d + 1, y, pc + 3, lw, sw) cs e x := hx
      exact am_fn_of (f' := (d + 1, y, pc + 3, lw, sw)) (h' := e) (fun m x hm => ⟨n1 + m + 1, ag_cv hc hA sh ho (by rw [ae_sr_cats q8]; exact hcat) hnl hg hm⟩) hx
theorem ac_keep_ok {m : ae_M} (q : ac_keep m = true) {k : Nat} {ρ : Nat → Int} {h h' : List am_E} (f : ae_fr ac_tmo L xs h h') (e : ae_eo k ρ L xs h m) : ae_eo k ρ L xs h' m := by
  obtain ⟨j, v, e1, e2, e3⟩ := e
  refine ⟨j, v, e1, (f m.1 j ?_).trans e2, e3⟩
  unfold ac_keep at q
  rcases Bool.or_eq_true_iff.mp q with q | q
  · have q : (Nat.beq m.1 3 || Nat.beq m.1 219) = false := by simpa using q
    rw [Bool.or_eq_false_iff] at q
    cases hb : ae_inm ac_tmo m.1 j with
    | false => rfl
    | true =>
      obtain ⟨r, hr, h1⟩ := List.any_eq_true.mp hb
      have hr : r ∈ ([(3, 5, 5), (3, 11, 16), (219, 14, 19)] : ae_Mo) := hr
      simp only [Bool.and_eq_true] at h1
      have h4 := Nat.eq_of_beq_eq_true h1.1.1
      simp only [List.mem_cons, List.not_mem_nil, or_false] at hr
      rcases hr with rfl | rfl | rfl
      · rw [← h4] at q; exact absurd q.1 (by decide)
      · rw [← h4] at q; exact absurd q.1 (by decide)
      · rw [← h4] at q; exact absurd q.2 (by decide)
  · simp only [Bool.and_eq_true] at q
    obtain ⟨⟨q1, q2⟩, q3⟩ := q
    have hj : m.2.1.1.toNat = j := by
      have h3 : m.2.1.1 = (j : Int) := by
        have := e1.2
        unfold ae_ev at this
        revert this
        cases h : m.2.1.2 with
        | nil => intro h5; rw [← h5]; show m.2.1.1 = m.2.1.1 + 0; omega
        | cons _ _ => unfold ae_kc at q1; rw [h] at q1; cases q1
      omega
    rw [← hj]
    simpa using q2
theorem ac_ha_ok {N : Int} (hN : n ≤ N) (hr : ae_rok = true) (hf : ae_fok = true) (hL : L ≤ 3072) (hmo : ae_sub2 ac_tmo mo = true) {z : ab_St} {o : List ab_St} (q : ac_ha N z = some o) (S : ab_sat (ac_G L xs b n T P) L xs ρ z g1 g2 h1 h2) :
    ∃ z' ∈ o, ∃ ρ' g1' g2' h1' h2', ae_up2 ρ z.k ρ' z'.k ∧ ab_sat (ac_G L xs b n T P) L xs ρ' z' g1' g2' h1' h2' ∧ (ap_end mo L xs Q g1' g2' h1' h2' → ap_end mo L xs Q g1 g2 h1 h2) := by
  obtain ⟨S1, S2, S4, S5, S6, S7, S8, ⟨G1, G2, G3, i, G4, G5, G6, G7, G8⟩, h0, r1', r2', r3'⟩ := S
  unfold ac_ha at q
  split at q <;> try (cases q; done)
  rename_i f1 r1 ht1
  split at q <;> try (cases q; done)
  rename_i f2 r2 ht2
  split at q <;> try (cases q; done)
  rename_i a1 s1 hs1
  split at q <;> try (cases q; done)
  rename_i a2 s2 hs2
  obtain ⟨hb, q⟩ := ae_bif q
  simp only [Bool.and_eq_true] at hb
  obtain ⟨⟨⟨⟨⟨⟨⟨⟨⟨⟨b1, b2⟩, b3⟩, b4⟩, b5⟩, b6⟩, b7⟩, b8⟩, b9⟩, b10⟩, b11⟩ := hb
  unfold ac_ha2 at q
  split at q <;> try (cases q; done)
  rename_i ek hek
  split at q <;> try (cases q; done)
  rename_i mn hmn
  obtain ⟨hb, q⟩ := ae_bif q
  simp only [Bool.and_eq_true] at hb
  cases q
  obtain ⟨⟨c1, c2⟩, c3⟩ := hb
  have l1 := S7.1.1
  have l2 := S8.1.1
  obtain ⟨dM, dm⟩ := ac_dex_ok S1 S4 b11
  have kM : ae_hk true L xs (am_mX2 ap_b false h1 h2) := ae_hk_of hf (fun _ => rfl) S4 dM
  have kA := aq_own_hk false kM (ap_hx_of S7) l2
  have kB : ae_hk true L xs h2 := aq_own_hk true (by rw [ap_mX_not]; exact kM) (ap_hx_of S8) l1
  -- the kind and the place that are known
  have ent : ∀ {m : ae_M} {j : Nat}, ae_fd z.m 3 (ae_num (j : Int)) = some m → Nat.beq m.2.2.1.1 0 = true → ae_dn z.k.1 ρ m.2.2.1.2.2 (aq_ci L xs (am_mX2 ap_b false h1 h2) 3 j) := by
    intro m j hm h0
    obtain ⟨m1, m2, m3⟩ := ae_fd_ok hm
    obtain ⟨j', v, e1, e2, e3⟩ := S4.2.1 m m1
    rw [m3] at e1
    have : j' = j := by have := e1.2; rw [(ae_num_dn (n := z.k.1) (ρ := ρ) (j : Int)).2] at this; omega
    subst this
    rw [m2] at e2
    obtain ⟨x, rfl, d⟩ := ae_ok0 e3 h0
    unfold aq_ci
    rw [e2]
    exact d
  have dk := ent (j := 11) hek c1
  have dn := ent (j := 5) hmn c3
  have kr := ae_rg_ok S1 c2
  rw [dk.2, G7.1] at kr
  rw [G5] at dn
  obtain ⟨x1, x2, x3, x4, ⟨x5, x6⟩, x7⟩ := id G3
  have iT : (i : Int) + 1 < T := by
    have := (x7 i G4)
    by_cases h : (i : Int) = T - 1
    · rcases this.mpr h with h | h <;> omega
    · omega
  obtain ⟨y1, y2, y3⟩ := x6 (i + 1) (by omega)
  -- the class's
  have A1 : ∀ {p j : Nat}, Nat.blt p 219 = true → aq_ci L xs h1 p j = aq_ci L xs (am_mX2 ap_b false h1 h2) p j := fun hp => (aq_ciA l1 l2 hp).symm
  have A2 : ∀ {p j : Nat}, Nat.blt p 219 = true → aq_cj L xs h1 p j = aq_cj L xs (am_mX2 ap_b false h1 h2) p j := fun hp => (aq_cjA l1 l2 hp).symm
  have B1 : ∀ {p j : Nat}, Nat.blt p 219 = false → aq_ci L xs h2 p j = aq_ci L xs (am_mX2 ap_b false h1 h2) p j := fun hp => (aq_ciB l1 l2 hp).symm
  have adv := fun d (hd : 1 ≤ d) => ac_adv (d := d) (lw := lv_args 0 [.ref 3]) hr hf hL kA (i := (i : Int) + 1) (t := T) (kd := aq_ci L xs (am_mX2 ap_b false h1 h2) 5 (i + 1)) (s := aq_ci L xs (am_mX2 ap_b false h1 h2) 6 (i + 1)) (v := aq_cj L xs (am_mX2 ap_b false h1 h2) 7 (i + 1)) (by omega) (by omega) y2 y3 (by rw [A1 rfl]; exact G5) (by rw [A1 rfl]; exact x1) (by rw [A1 rfl]; rfl) (by rw [A1 rfl]; rfl) (by rw [A2 rfl]; rfl) hd rfl
  obtain ⟨m1, e1, w1, w2, w3, w4, w5, w6⟩ := adv 1 (Nat.le_refl _)
  have nxt := fun d (hd : 20 ≤ d) => y1 h2 d (lv_args 0 [.ref 219]) kB (fun j hj => by rw [← ap_cx (s := false) l1 l2 (show am_sd ap_b false 223 = false from rfl)]; exact G1 j hj) (by rw [B1 rfl]; exact G2) (by rw [B1 rfl]; exact G6) hd rfl
  obtain ⟨m2, e2, u1, u2, u3, u4, u5, u6⟩ := nxt 20 (Nat.le_refl _)
  have advd : ∀ d, 1 ≤ d → ∃ n1, am_go L xs n1 d 58 0 (lv_args 0 [.ref 3]) [] h1 = some (none, e1) := fun d hd => ⟨m1, by
    obtain ⟨d', rfl⟩ : ∃ d', d = d' + 1 := ⟨d - 1, by omega⟩
    exact am_go_deep w1 (by omega)⟩
  have nxtd : ∀ d, 20 ≤ d → ∃ n1, am_go L xs n1 d 219 0 (lv_args 0 [.ref 219]) [] h2 = some (none, e2) := fun d hd => ⟨m2, am_go_deep u1 hd⟩
  obtain ⟨g1', t1', run1⟩ := ac_ret (dn := 1) (own := 6) ht1 hs1 b1 b3 b4 b7 b9 (by decide) (by decide) (by decide) (by decide) S7.1 S5 advd
  obtain ⟨g2', t2', run2⟩ := ac_ret (dn := 20) (own := 12) ht2 hs2 b2 b5 b6 b8 b10 (by decide) (by decide) (by decide) (by decide) S8.1 S6 nxtd
  have le1 := w4.1.1
  have le2 := u2.1.1
  have frm : ae_fr ac_tmo L xs (am_mX2 ap_b false h1 h2) (am_mX2 ap_b false e1 e2) := by
    intro p j hp
    cases hs : am_sd ap_b false p with
    | true =>
      rw [ap_c (s := false) le1 le2 hs, ap_c (s := false) l1 l2 hs]
      exact w3 p j (ae_sub2_ok (b := ac_tmo) (by decide) hp)
    | false =>
      rw [ap_cx (s := false) le1 le2 hs, ap_cx (s := false) l1 l2 hs]
      exact u4 p j (ae_sub2_ok (b := ac_tmo) (by decide) hp)
  obtain ⟨k', ek', K', n'⟩ := ae_ask_ok (es := [ae_pls mn.2.2.1.2.2 (-N)]) S1 (fun e he => by
    rw [List.mem_singleton.mp he]
    have d := ae_pls_dn dn (-N)
    exact ⟨d.1, by rw [d.2]; omega⟩)
  have y2' : (0 : Int) ≤ aq_ci L xs (am_mX2 ap_b false h1 h2) 5 (i + 1) ∧ aq_ci L xs (am_mX2 ap_b false h1 h2) 5 (i + 1) ≤ 6 := y2
  have KN := ae_new_ok K' y2'.1 y2'.2
  have ag : ae_ag z.k.1 ρ (ae_up ρ k'.1 (aq_ci L xs (am_mX2 ap_b false h1 h2) 5 (i + 1))) := by rw [n']; exact ae_up_ag ρ z.k.1 _
  have up : ae_up2 ρ z.k (ae_up ρ k'.1 (aq_ci L xs (am_mX2 ap_b false h1 h2) 5 (i + 1))) (ae_new k' 0 6) := ⟨by show z.k.1 ≤ k'.1 + 1; omega, ag, KN⟩
  have kM' := aq_mixhk w4 u2
  have A1' : ∀ {p j : Nat}, Nat.blt p 219 = true → aq_ci L xs (am_mX2 ap_b false e1 e2) p j = aq_ci L xs e1 p j := fun hp => aq_ciA le1 le2 hp
  have B1' : ∀ {p j : Nat}, Nat.blt p 219 = false → aq_ci L xs (am_mX2 ap_b false e1 e2) p j = aq_ci L xs e2 p j := fun hp => aq_ciB le1 le2 hp
  have a5 : ∀ j, aq_ci L xs (am_mX2 ap_b false e1 e2) 5 j = aq_ci L xs (am_mX2 ap_b false h1 h2) 5 j := fun j => aq_ci_fr frm rfl
  have a6 : ∀ j, aq_ci L xs (am_mX2 ap_b false e1 e2) 6 j = aq_ci L xs (am_mX2 ap_b false h1 h2) 6 j := fun j => aq_ci_fr frm rfl
  have a7 : ∀ j, aq_cj L xs (am_mX2 ap_b false e1 e2) 7 j = aq_cj L xs (am_mX2 ap_b false h1 h2) 7 j := fun j => aq_cj_fr frm rfl
  refine ⟨_, List.mem_map.mpr ⟨k', ek', rfl⟩, _, g1', g2', e1, e2, up, ⟨KN, ae_k0_up S2 up, ?_, ap_tt_ext up.1 up.2.1 t1', ap_tt_ext up.1 up.2.1 t2', ap_hs_sm S7 w2 w4.1, ap_hs_sm S8 u3 u2.1, ?_, h0, r1', ab_fr_jn r2' frm, fun m hm => ae_eo_ext up.1 up.2.1 (r3' m hm)⟩, fun fin => ?_⟩
  · show ae_hp false (k'.1 + 1) (ae_up ρ k'.1 (aq_ci L xs (am_mX2 ap_b false h1 h2) 5 (i + 1))) L xs ((3, ae_num 11, ((0, 0, ae_sym k'.1) : ae_V), false) :: (3, ae_num 5, ((0, 0, ae_pls mn.2.2.1.2.2 1) : ae_V), false) :: z.m.filter ac_keep) (am_mX2 ap_b false e1 e2)
    refine ae_hp_bk hf (ae_hp_ext up.1 up.2.1 S4) kM' frm (by decide) (fun m hm => ?_) (fun m hm hd => List.mem_cons_of_mem _ (List.mem_cons_of_mem _ (List.mem_filter.mpr ⟨hm, by unfold ac_keep; rw [dm m hm hd]; rfl⟩)))
    · rcases List.mem_cons.mp hm with rfl | hm
      · refine aq_eo kM' (j := 11) ⟨by decide, by decide, by decide⟩ rfl rfl ?_ rfl ?_
        · show (Nat.blt k'.1 (k'.1 + 1) && true) = true
          rw [Nat.blt_eq.mpr (Nat.lt_succ_self _)]; rfl
        · rw [A1' rfl, w6.1, (ae_sym_dn (n := k'.1 + 1) (Nat.lt_succ_self k'.1)).2, ae_up_at]
      · rcases List.mem_cons.mp hm with rfl | hm
        · have d := ae_dn_ext up.1 up.2.1 (ae_pls_dn dn 1)
          obtain ⟨x, z1, z2, -⟩ := aq_int kM' (p := 3) (j := 5) ⟨by decide, by decide, by decide⟩ rfl
          refine ⟨5, .int x, ⟨trivial, rfl⟩, z1, x, rfl, d.1, ?_⟩
          rw [d.2, z2, A1' rfl, w5]
        · obtain ⟨f1', f2'⟩ := List.mem_filter.mp hm
          exact ae_eo_ext up.1 up.2.1 (ac_keep_ok f2' frm (S4.2.1 m f1'))
  · refine ⟨fun j hj => (frm 223 j rfl).trans (G1 j hj), by rw [aq_ci_fr frm rfl]; exact G2, ac_lex_eq (aq_ci_fr frm rfl) (aq_ci_fr frm rfl) a5 a6 a7 G3, i + 1, by omega, by rw [A1' rfl, w5]; omega, by rw [B1' rfl]; exact u5, ?_, ?_⟩
    · rw [a5, a6, a7]
      unfold ac_cur at w6 ⊢
      rw [A1' rfl, A1' rfl, A1' rfl, A1' rfl, A1' rfl, aq_cjA le1 le2 rfl]
      exact w6
    · rw [a5, a6, a7]
      unfold aq_tokh at u6 ⊢
      rw [B1' rfl, B1' rfl, B1' rfl, B1' rfl, aq_cjB le1 le2 rfl]
      exact u6
  · obtain ⟨v1, f1', v2, f2', q1, q2, q3, q4, q5, q6⟩ := fin
    exact ⟨v1, f1', v2, f2', run1 _ q1, run2 _ q2, ap_sm_tr w2 q3, ap_sm_tr u3 q4, ae_fr_tr (fun p j hp => frm p j (ae_sub2_ok hmo hp)) q5, q6⟩
end ACH

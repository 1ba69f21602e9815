/-! The hook of the word methods, of the emptying of the new yard; all hooks -/
noncomputable def ac_st2 (f : ap_F) (s : List ae_V) (r : List ap_F) (a : Int) : ap_T := ((f.1, f.2.1, f.2.2.1 + 3, f.2.2.2.1, (0, 0, ae_num a) :: s) :: r, none)
noncomputable def ac_hw3 (z : ab_St) (p : Nat × List (Int × Int × Int) × Int) (M : List ae_M) (f : ap_F) (s : List ae_V) (r : List ap_F) : Option (List ab_St) := match ae_fd M 3 (ae_num 11) with
  | some ek => bif Nat.beq ek.2.2.1.1 0 && ae_kc ek.2.2.1.2.2 then (bif ae_ie ek.2.2.1.2.2.1 1 then (match ae_fd M 3 (ae_num 12) with
      | some mw => bif Nat.beq mw.2.2.1.1 0 then some (p.2.1.flatMap fun q => (ae_ask z.k [ae_neg mw.2.2.1.2.2 q.1, ae_pls mw.2.2.1.2.2 (-q.2.1)]).map fun k => (k, M, z.o, z.w, z.T, z.t1, ac_st2 f s r q.2.2)) else none
      | none => none)
    else some [(z.k, M, z.o, z.w, z.T, z.t1, ac_st2 f s r p.2.2)]) else none
  | none => none
/-- entries that break no invariant stay as they are -/
noncomputable def ac_vq (k : ae_K) (M : List ae_M) : Option (List ae_M) := bif M.all (fun m => !m.2.2.2) then some M else ae_vd true k (ab_vp k M)
theorem ac_vq_ok (hf : ae_fok = true) {ρ : Nat → Int} {k : ae_K} {L : Nat} {xs : Nat → Int32} {M M' : List ae_M} {h : List am_E} (hK : ae_okK ρ k) (hH : ae_hp false k.1 ρ L xs M h) (q : ac_vq k M = some M') : ae_hp false k.1 ρ L xs M' h ∧ ∀ p j, ae_dy ρ M' p j → true = true ∧ ae_ine p j = true := by
  unfold ac_vq at q
  cases hc : M.all (fun m => !m.2.2.2) with
  | true =>
    rw [hc] at q
    cases q
    exact ⟨hH, fun p j ⟨m, m1, m2, _⟩ => by
      have h1 := List.all_eq_true.mp hc m m1
      rw [m2] at h1
      cases h1⟩
  | false =>
    rw [hc] at q
    exact ae_vd_ok hf hK (ab_vp_ok hf hK hH) q
noncomputable def ac_hw (z : ab_St) : Option (List ab_St) := match z.t2.1 with
  | f :: r => (match f.2.2.2.2 with
    | a :: s => (match ac_wl.find? fun p => ac_call f p.1 with
      | some p => bif Nat.beq a.1 2 && Nat.beq a.2.1 219 && Nat.ble 12 f.1 && Nat.ble (ae_cats s) 8 then
          (match ac_vq z.k z.m with
          | some M => ac_hw3 z p M f s r
          | none => none) else none
      | none => none)
    | [] => none)
  | [] => none
section ACW
variable {L : Nat} {xs : Nat → Int32} {b : Nat → Option Value} {n T : Int} {P : Nat → Int} {Q : Option Value → Option Value → List am_E → List am_E → Prop} {mo : ae_Mo} {ρ : Nat → Int} {g1 g2 : ap_cT} {h1 h2 : List am_E}
theorem ac_retv {f : ap_F} {s : List ae_V} {r : List ap_F} {a0 : ae_V} {t : ap_T} {g : ap_cT} {k : Nat} {a p own : Nat} {h e : List am_E} {dn : Nat} {v : Int32} {A : Int} (ht : t.1 = f :: r) (hs : f.2.2.2.2 = a0 :: s) (hc : ac_call f a = true) (h0 : Nat.beq a0.1 2 = true) (hp : Nat.beq a0.2.1 p = true) (hdd : Nat.ble (dn + 1) f.1 = true) (hcat : Nat.ble (ae_cats s) 8 = true) (hA : Nat.ble 1000 a = false) (hown : (am_inf a).1 = own) (ho : ae_isO p own 0 = true) (hnl : Nat.ble 1 (am_inf a).2.2.1 = true) (sh : ae_shp h) (F : ap_tt k ρ t g)
    (hg : ∀ d, dn ≤ d → ∃ n1, am_go L xs n1 d a 0 (lv_args 0 [.ref p]) [] h = some (some (.int v), e)) (hv : v.toInt = A) : ∃ g', ap_tt k ρ (ac_st2 f s r A) g' ∧ ∀ x, ap_run L xs g' e x → ap_run L xs g h x := by
  obtain ⟨gf, gv⟩ := g
  have F1 := F.1
  rw [ht] at F1
  cases gf with
  | nil => exact absurd F1 id
  | cons c cs =>
    obtain ⟨d, y, pc, lw, sw⟩ := c
    obtain ⟨⟨q1, q2, q3, q4, q5⟩, q6⟩ := F1
    have q1 : f.1 ≤ d := q1
    have q2 : f.2.1 = y := q2
    have q3 : f.2.2.1 = pc := q3
    have q5 : ae_sr k ρ f.2.2.2.2 sw := q5
    rw [hs] at q5
    cases sw with
    | nil => exact absurd q5 id
    | cons w sw =>
      obtain ⟨q7, q8⟩ := q5
      have hw : w = .ref p := by
        obtain ⟨a1, a2, a3⟩ := a0
        have e1 : a1 = 2 := Nat.eq_of_beq_eq_true h0
        have e2 : a2 = p := Nat.eq_of_beq_eq_true hp
        rw [e1, e2] at q7
        exact q7
      subst hw
      have hdn := Nat.le_of_ble_eq_true hdd
      obtain ⟨d, rfl⟩ : ∃ d', d = d' + 1 := ⟨d - 1, by omega⟩
      obtain ⟨w, hc⟩ := ac_call_ok hc
      rw [q2, q3] at hc
      obtain ⟨n1, hg⟩ := hg d (by omega)
      refine ⟨((d + 1, y, pc + 3, lw, .int v :: sw) :: cs, none), ⟨⟨⟨q1, q2, by show f.2.2.1 + 3 = pc + 3; rw [q3], q4, ⟨v, rfl, trivial, by show A + 0 = v.toInt; omega⟩, q8⟩, q6⟩, fun e => by cases e⟩, fun x hx => ?_⟩
      subst hown
      have hx : am_fn L xs (d + 1, y, pc + 3, lw, .int v :: sw) cs e x := hx
      exact am_fn_of (f' := (d + 1, y, pc + 3, lw, .int v :: sw)) (h' := e) (fun m x hm => ⟨n1 + m + 1, ag_cv hc hA sh ho (by rw [ae_sr_cats q8]; exact hcat) hnl hg hm⟩) hx
theorem ac_own : ∀ p ∈ ac_wl, Nat.ble 1000 p.1 = false ∧ (am_inf p.1).1 = 12 ∧ Nat.ble 1 (am_inf p.1).2.2.1 = true := by decide +kernel
theorem ac_m1 : ∀ v ∈ aq_kw, (-1 : Int) ≠ aq_code v := by decide +kernel
theorem ac_hw_ok (hr : ae_rok = true) (hf : ae_fok = true) (hL : L ≤ 3072) {z : ab_St} {o : List ab_St} (q : ac_hw z = some o) (S : ab_sat (ac_G L xs b n T P) L xs ρ z g1 g2 h1 h2) :
    ∃ z' ∈ o, ∃ ρ' g1' g2' h1' h2', ae_up2 ρ z.k ρ' z'.k ∧ ab_sat (ac_G L xs b n T P) L xs ρ' z' g1' g2' h1' h2' ∧ (ap_end mo L xs Q g1' g2' h1' h2' → ap_end mo L xs Q g1 g2 h1 h2) := by
  obtain ⟨S1, S2, S4, S5, S6, S7, S8, S9, h0, r1', r2', r3'⟩ := S
  obtain ⟨G1, G2, G3, i, G4, G5, G6, G7, G8⟩ := id S9
  unfold ac_hw at q
  split at q <;> try (cases q; done)
  rename_i f r ht
  split at q <;> try (cases q; done)
  rename_i a s hs
  split at q <;> try (cases q; done)
  rename_i p hp
  obtain ⟨hb, q⟩ := ae_bif q
  simp only [Bool.and_eq_true] at hb
  obtain ⟨⟨⟨b1, b2⟩, b3⟩, b4⟩ := hb
  split at q <;> try (cases q; done)
  rename_i M hM
  have pm := List.mem_of_find?_eq_some hp
  have pc := List.find?_some hp
  obtain ⟨F, wm, gd1, gd2⟩ := ac_wl_ok p pm
  obtain ⟨o1, o2, o3⟩ := ac_own p pm
  obtain ⟨H1, D1⟩ := ac_vq_ok hf S1 S4 hM
  have kM : ae_hk true L xs (am_mX2 ap_b false h1 h2) := ae_hk_of hf (fun _ => rfl) H1 D1
  have l1 := S7.1.1
  have l2 := S8.1.1
  have kA := aq_own_hk false kM (ap_hx_of S7) l2
  have kB : ae_hk true L xs h2 := aq_own_hk true (by rw [ap_mX_not]; exact kM) (ap_hx_of S8) l1
  have tw : ac_tw L xs h2 (aq_ci L xs (am_mX2 ap_b false h1 h2) 219 14) (aq_cj L xs (am_mX2 ap_b false h1 h2) 219 19) := ⟨kB, (aq_ciB l1 l2 rfl).symm, (aq_cjB l1 l2 rfl).symm⟩
  obtain ⟨n1, rv, e, w1, w2, w3, w4, w5⟩ := wm L xs h2 11 (lv_args 0 [.ref 219]) _ _ hL tw (Nat.le_refl _) rfl
  have kB' := w4.1
  have kM' := aq_mixhk kA kB'
  have frm : ae_fr [] L xs (am_mX2 ap_b false h1 h2) (am_mX2 ap_b false h1 e) := by
    intro p' j hp'
    cases hsd : am_sd ap_b false p' with
    | true => rw [ap_c (s := false) l1 kB'.1.1 hsd, ap_c (s := false) l1 l2 hsd]
    | false => rw [ap_cx (s := false) l1 kB'.1.1 hsd, ap_cx (s := false) l1 l2 hsd]; exact w3 p' j rfl
  have G' : ac_G L xs b n T P (am_mX2 ap_b false h1 e) := ac_G_fr ⟨fun _ => rfl, fun _ => rfl, fun _ => rfl, fun _ => rfl, fun _ _ => rfl, fun _ _ => rfl⟩ S9 frm
  have old : ∀ {nn : Nat} {ρ' : Nat → Int}, z.k.1 ≤ nn → ae_ag z.k.1 ρ ρ' → ab_old nn ρ' L xs z.o z.w z.T (am_mX2 ap_b false h1 e) := fun hn ag => ⟨h0, r1', fun p' j hp' => (frm p' j rfl).trans (r2' p' j hp'), fun m hm => ae_eo_ext hn ag (r3' m hm)⟩
  have hpM : ∀ {nn : Nat} {ρ' : Nat → Int}, z.k.1 ≤ nn → ae_ag z.k.1 ρ ρ' → ae_hp false nn ρ' L xs M (am_mX2 ap_b false h1 e) := fun {nn ρ'} hn ag => by
    exact ae_hp_bk hf (ae_hp_ext hn ag H1) kM' frm (by decide) (fun m hm => by
      obtain ⟨j, v, e1, e2, e3⟩ := ae_eo_ext hn ag (H1.2.1 m hm)
      exact ⟨j, v, e1, (frm m.1 j rfl).trans e2, e3⟩) (fun m hm _ => hm)
  have fin : ∀ {A : Int} {k' : ae_K}, rv.toInt = A → ae_okK ρ k' → k'.1 = z.k.1 → ∃ g2', ab_sat (ac_G L xs b n T P) L xs ρ (k', M, z.o, z.w, z.T, z.t1, ac_st2 f s r A) g1 g2' h1 e ∧ (ap_end mo L xs Q g1 g2' h1 e → ap_end mo L xs Q g1 g2 h1 h2) := by
    intro A k' hA K' n'
    obtain ⟨g2', t2', run2⟩ := ac_retv (dn := 11) (own := 12) (v := rv) ht hs pc b1 b2 b3 b4 o1 o2 (by decide) o3 S8.1 S6 (fun d hd => ⟨n1, am_go_deep w1 hd⟩) hA
    refine ⟨g2', ⟨K', ⟨⟨by show 0 < k'.1; rw [n']; exact S2.1.1, S2.1.2⟩, S2.2⟩, ?_, ?_, ?_, S7, ap_hs_sm S8 w2 kB'.1, G', ?_⟩, fun fin => ?_⟩
    · show ae_hp false k'.1 ρ L xs M (am_mX2 ap_b false h1 e)
      rw [n']; exact hpM (Nat.le_refl _) (ae_ag_rf _ _)
    · show ap_tt k'.1 ρ z.t1 g1
      rw [n']; exact S5
    · show ap_tt k'.1 ρ (ac_st2 f s r A) g2'
      rw [n']; exact t2'
    · show ab_old k'.1 ρ L xs z.o z.w z.T (am_mX2 ap_b false h1 e)
      rw [n']; exact old (Nat.le_refl _) (ae_ag_rf _ _)
    · obtain ⟨v1, f1', v2, f2', q1, q2, q3, q4, q5, q6⟩ := fin
      exact ⟨v1, f1', v2, f2', q1, run2 _ q2, q3, ap_sm_tr w2 q4, ae_fr_tr (fun p j hp => frm p j rfl) q5, q6⟩
  unfold ac_hw3 at q
  split at q <;> try (cases q; done)
  rename_i ek hek
  obtain ⟨hb, q⟩ := ae_bif q
  rw [Bool.and_eq_true] at hb
  -- values that are known
  have ent : ∀ {m : ae_M} {j : Nat}, ae_fd M 3 (ae_num (j : Int)) = some m → Nat.beq m.2.2.1.1 0 = true → ae_dn z.k.1 ρ m.2.2.1.2.2 (aq_ci L xs (am_mX2 ap_b false h1 h2) 3 j) := by
    intro m j hm h0
    obtain ⟨m1, m2, m3⟩ := ae_fd_ok hm
    obtain ⟨j', v, e1, e2, e3⟩ := H1.2.1 m m1
    rw [m3] at e1
    have : j' = j := by have := e1.2; rw [(ae_num_dn (n := z.k.1) (ρ := ρ) (j : Int)).2] at this; omega
    subst this
    rw [m2] at e2
    obtain ⟨x, rfl, d⟩ := ae_ok0 e3 h0
    unfold aq_ci
    rw [e2]
    exact d
  have dk := ent (j := 11) hek hb.1
  have kcv : ae_ev ρ ek.2.2.1.2.2 = ek.2.2.1.2.2.1 := by
    have h := hb.2
    unfold ae_kc at h
    unfold ae_ev
    revert h
    cases ek.2.2.1.2.2.2 with
    | nil => intro _; exact Int.add_zero _
    | cons _ _ => intro h; cases h
  have kdv : ek.2.2.1.2.2.1 = aq_ci L xs (am_mX2 ap_b false h1 h2) 5 i := by rw [← kcv, dk.2, G7.1]
  cases h1b : ae_ie ek.2.2.1.2.2.1 1 with
  | true =>
    rw [h1b] at q
    have kd1 : aq_ci L xs (am_mX2 ap_b false h1 h2) 5 i = 1 := by rw [← kdv]; exact ae_ie_ok h1b
    change (match ae_fd M 3 (ae_num 12) with
      | some mw => bif Nat.beq mw.2.2.1.1 0 then some (p.2.1.flatMap fun q => (ae_ask z.k [ae_neg mw.2.2.1.2.2 q.1, ae_pls mw.2.2.1.2.2 (-q.2.1)]).map fun k => (k, M, z.o, z.w, z.T, z.t1, ac_st2 f s r q.2.2)) else none
      | none => none) = some o at q
    split at q <;> try (cases q; done)
    rename_i mw hmw
    obtain ⟨hb2, q⟩ := ae_bif q
    cases q
    have dw := ent (j := 12) hmw hb2
    rw [G7.2.1, if_pos kd1] at dw
    obtain ⟨-, tok⟩ := G8
    rw [kd1] at tok
    have tok : aq_ci L xs (am_mX2 ap_b false h1 h2) 219 14 = 1 ∧ 0 ≤ aq_cj L xs (am_mX2 ap_b false h1 h2) 7 i ∧ aq_cj L xs (am_mX2 ap_b false h1 h2) 7 i < 32 ∧ aq_cj L xs (am_mX2 ap_b false h1 h2) 219 19 = aq_code (aq_kw.getD (aq_cj L xs (am_mX2 ap_b false h1 h2) 7 i).toNat []) := by
      rcases tok with ⟨h, -⟩ | ⟨-, t1, t2, t3, t4, t5⟩ | ⟨h, -⟩ | ⟨h, -⟩ | ⟨h, -⟩ | ⟨h, -⟩ | ⟨h, -⟩
      · exact absurd h (by decide)
      · exact ⟨t1, t3, t4, t5⟩
      · exact absurd h (by decide)
      · exact absurd h (by decide)
      · exact absurd h (by decide)
      · exact absurd h (by decide)
      · exact absurd h (by decide)
    obtain ⟨t1, t2, t3, t4⟩ := tok
    generalize aq_cj L xs (am_mX2 ap_b false h1 h2) 7 i = vl at *
    obtain ⟨q, hq, c1, c2, c3⟩ := gd1 ⟨vl.toNat, by omega⟩
    have c1 : q.1 ≤ ((vl.toNat : Nat) : Int) := c1
    have c2 : ((vl.toNat : Nat) : Int) ≤ q.2.1 := c2
    obtain ⟨k', ek', K', n'⟩ := ae_ask_ok (es := [ae_neg mw.2.2.1.2.2 q.1, ae_pls mw.2.2.1.2.2 (-q.2.1)]) S1 (fun e he => by
      rcases List.mem_cons.mp he with rfl | he
      · have d := ae_neg_dn dw q.1; exact ⟨d.1, by rw [d.2]; omega⟩
      · rw [List.mem_singleton.mp he]
        have d := ae_pls_dn dw (-q.2.1); exact ⟨d.1, by rw [d.2]; omega⟩)
    obtain ⟨g2', S', fin'⟩ := fin (A := q.2.2) (k' := k') (by rw [w5, t1, t4]; exact c3.symm) K' n'
    exact ⟨_, List.mem_flatMap.mpr ⟨q, hq, List.mem_map.mpr ⟨k', ek', rfl⟩⟩, ρ, g1, g2', h1, e, ⟨by show z.k.1 ≤ k'.1; omega, ae_ag_rf _ _, K'⟩, S', fin'⟩
  | false =>
    rw [h1b] at q
    cases q
    have kd1 : aq_ci L xs (am_mX2 ap_b false h1 h2) 5 i ≠ 1 := fun h => by
      rw [kdv, h] at h1b
      exact absurd h1b (by decide)
    obtain ⟨g2', S', fin'⟩ := fin (A := p.2.2) (k' := z.k) (by
      rw [w5]
      refine (gd2 _ _ ?_).symm
      obtain ⟨-, tok⟩ := G8
      rcases tok with ⟨h, t⟩ | ⟨h, -⟩ | ⟨h, -, -, -, t1, -, -, t2⟩ | ⟨h, -, -, t⟩ | ⟨h, t, -⟩ | ⟨h, t, -⟩ | ⟨h, t⟩
      · exact Or.inl (by omega)
      · exact absurd h kd1
      · exact Or.inr (fun v hv => by rw [t1]; exact t2 v hv)
      · exact Or.inr (fun v hv => by rw [t]; exact ac_m1 v hv)
      · exact Or.inl (by omega)
      · exact Or.inl (by omega)
      · exact Or.inl (by omega)) S1 rfl
    exact ⟨_, List.mem_singleton.mpr rfl, ρ, g1, g2', h1, e, ⟨Nat.le_refl _, ae_ag_rf _ _, S1⟩, S', fin'⟩
end ACW

/-! Loops and known loops -/
theorem ae_hp_add {ex : Bool} {n : Nat} {ρ : Nat → Int} {L : Nat} {xs : Nat → Int32} {A M : List ae_M} {h : List am_E} (H : ae_hp ex n ρ L xs M h) (hA : ∀ m ∈ A, ae_eo n ρ L xs h m) : ae_hp ex n ρ L xs (A ++ M) h := by
  refine ⟨H.1, fun m hm => ?_, fun p' j' v' hp' hc' => ?_, fun f hf ii hi => ?_⟩
  · rcases List.mem_append.mp hm with hm | hm
    · exact hA m hm
    · exact H.2.1 m hm
  · rcases H.2.2.1 p' j' v' hp' hc' with g | ⟨m, g1, g2⟩ | g
    · exact Or.inl g
    · exact Or.inr (Or.inl ⟨m, List.mem_append_right _ g1, g2⟩)
    · exact Or.inr (Or.inr g)
  · rcases H.2.2.2 f hf ii hi with g | ⟨o, ho, m, g1, g2⟩ | g
    · exact Or.inl g
    · exact Or.inr (Or.inl ⟨o, ho, m, List.mem_append_right _ g1, g2⟩)
    · exact Or.inr (Or.inr g)
theorem ae_lc_ok {ρ : Nat → Int} {k : ae_K} (hK : ae_okK ρ k) {lv : ae_L} {lw : am_L} (hl : ae_lr k.1 ρ lv lw) {c : Nat × Bool × Int} (q : ae_lc k lv c = true) : ae_lt2 lw c := by
  unfold ae_lc at q
  unfold ae_lt2
  split at q
  · rename_i a ha
    obtain ⟨v, g1, g2⟩ := ae_lg_ok hl ha
    cases hb : c.2.1 with
    | true =>
      rw [hb] at q
      have q : (Nat.beq a.1 2 && ae_ie (a.2.1 : Int) c.2.2) = true := q
      rw [Bool.and_eq_true] at q
      obtain rfl := ae_ok2 g2 q.1
      exact ⟨a.2.1, g1, ae_ie_ok q.2⟩
    | false =>
      rw [hb] at q
      have q : (Nat.beq a.1 0 && ae_kc (ae_nr k a.2.2) && ae_ie (ae_nr k a.2.2).1 c.2.2) = true := q
      simp only [Bool.and_eq_true] at q
      obtain ⟨x, rfl, d⟩ := ae_ok0 g2 q.1.1
      exact ⟨x, g1, by rw [ae_kc_ok q.1.2 (ae_nr_dn hK d)]; exact ae_ie_ok q.2⟩
  · cases q
noncomputable def ae_ms (c : ae_Cx) (zs : List Int) : Nat := match c.2.2.2.2.1[c.2.2.2.2.2.1]? with
  | some i => (match zs[c.2.2.2.2.2.1]? with
    | some z => bif c.2.2.2.2.2.2 then (i.1.2.2.2.2.2.2.2.2 - z).toNat else (z - i.1.2.2.2.2.2.2.2.1).toNat
    | none => 0)
  | none => 0
theorem ae_ms_lt {c : ae_Cx} {zs zs' : List Int} (q : ae_rk c zs zs') : ae_ms c zs' < ae_ms c zs := by
  obtain ⟨i, z, z', h1, h2, h3, h4, h5, h6⟩ := q
  unfold ae_ms
  rw [h1, h2, h3]
  show (bif c.2.2.2.2.2.2 then (i.1.2.2.2.2.2.2.2.2 - z').toNat else (z' - i.1.2.2.2.2.2.2.2.1).toNat) < (bif c.2.2.2.2.2.2 then (i.1.2.2.2.2.2.2.2.2 - z).toNat else (z - i.1.2.2.2.2.2.2.2.1).toNat)
  cases hu : c.2.2.2.2.2.2 with
  | true =>
    rw [hu] at h6
    have h6 : z + 1 ≤ z' := h6
    show (i.1.2.2.2.2.2.2.2.2 - z').toNat < (i.1.2.2.2.2.2.2.2.2 - z).toNat
    omega
  | false =>
    rw [hu] at h6
    have h6 : z' + 1 ≤ z := h6
    show (z' - i.1.2.2.2.2.2.2.2.1).toNat < (z - i.1.2.2.2.2.2.2.2.1).toNat
    omega
section AMO
variable {P : ae_P} {L : Nat} {xs : Nat → Int32} {E nb : Nat} {W0 : Int} {go : ae_Go}
theorem ae_sw0 {ρ : Nat → Int} {n : Nat} {sw : List Value} (q : ae_sr n ρ [] sw) : sw = [] := by
  cases sw with
  | nil => rfl
  | cons v t => exact absurd q id
theorem ae_b3_ok (hr : ae_rok = true) (hf : ae_fok = true) (hL : L ≤ 3072) (hmc : ∀ m ∈ P.2.2.2.2.1, ae_MOK m) (hrc : ae_rec P L xs E nb W0) (ih : ae_main P L xs E nb W0 go) (ih2 : ae_main P L xs E nb W0 (ae_b2 P go)) : ae_main P L xs E nb W0 (ae_b3 P go) := by
  intro dd y pc k M lv st cxs outs q ρ d lw sw h T n0 hd hT hn hnb hw gH hcx
  unfold ae_b3 at q
  split at q
  · rename_i m hm
    have hmem := List.mem_of_find?_eq_some hm
    have hs := List.find?_some hm
    simp only [Bool.and_eq_true] at hs
    obtain ⟨⟨s1, s2⟩, s3⟩ := hs
    split at q
    · obtain ⟨hb, q⟩ := ae_bif q
      rw [Bool.and_eq_true, Bool.not_eq_true'] at hb
      obtain ⟨M1, h1, q⟩ := Option.bind_eq_some_iff.mp q
      obtain ⟨M2, h2, q⟩ := Option.bind_eq_some_iff.mp q
      obtain rfl := ae_sw0 gH.2.2.2.2
      obtain ⟨H1, D1⟩ := ae_vd_ok hf gH.1 gH.2.2.1 h1
      have hk := ae_hk_of (cx := false) hf (fun e => by rw [hb.1] at e; cases e) H1 D1
      have hy := Nat.eq_of_beq_eq_true s1
      have hpc := Nat.eq_of_beq_eq_true s2
      obtain ⟨h', lw2, z1, z2, z3, z4, z5⟩ := hmc m hmem L xs d lw h hL (fun c hc => ae_lc_ok gH.1 gH.2.2.2.1 (List.all_eq_true.mp s3 c hc)) hk
      have H2 : ae_hp P.1 k.1 ρ L xs M2 h' := by
        rw [hb.1] at H1 ⊢
        exact ae_kept_ok (cx := false) hf (fun e => by cases e) gH.1 H1 z1 z2 h2
      have H3 : ae_hp P.1 k.1 ρ L xs (m.2.2.2.2.2.2.flatMap (fun t => M1.filterMap fun e => ae_tr1 e t) ++ M2) h' := by
        refine ae_hp_add H2 (fun e he => ?_)
        obtain ⟨t, ht, he⟩ := List.mem_flatMap.mp he
        obtain ⟨e0, he0, he⟩ := List.mem_filterMap.mp he
        unfold ae_tr1 at he
        obtain ⟨hc, he⟩ := ae_bif he
        cases he
        simp only [Bool.and_eq_true] at hc
        obtain ⟨⟨⟨⟨c1, c2⟩, c3⟩, c4⟩, c5⟩ := hc
        obtain ⟨j, v, g1, g2, g3⟩ := H1.2.1 e0 he0
        have hj := ae_kc_ok c2 g1
        have l1 := ae_le_iff.mp c4
        have l2 := ae_le_iff.mp c5
        rw [← hj] at l1 l2
        have c1 := Nat.eq_of_beq_eq_true c1
        have e1 := z4 t ht (j - t.2.1) (by omega)
        have e2 : t.2.1 + (j - t.2.1) = j := by omega
        rw [e2, ← c1, g2] at e1
        refine ⟨t.2.2.2.1 + (j - t.2.1), v, ?_, e1, g3⟩
        have := ae_num_dn (n := k.1) (ρ := ρ) (e0.2.1.1 - (t.2.1 : Int) + (t.2.2.2.1 : Int))
        rw [← hj] at this
        have e3 : (j : Int) - (t.2.1 : Int) + (t.2.2.2.1 : Int) = ((t.2.2.2.1 + (j - t.2.1) : Nat) : Int) := by omega
        show ae_dn k.1 ρ (ae_num (e0.2.1.1 - (t.2.1 : Int) + (t.2.2.2.1 : Int))) _
        rw [← hj]
        rwa [e3] at this ⊢
      have hl3 : ae_lr k.1 ρ (lv.filter fun q => !(Nat.beq q.1 m.2.2.2.1) && !(Nat.beq (q.1 + 1) m.2.2.2.1 && Nat.beq q.2.1 1)) lw2 := by
        intro p hp
        obtain ⟨p1, p2⟩ := List.mem_filter.mp hp
        obtain ⟨v, g1, g2⟩ := gH.2.2.2.1 p p1
        simp only [Bool.and_eq_true, Bool.not_eq_true'] at p2
        refine ⟨v, z3 p.1 (fun e => by have p3 := p2.1; rw [e, Nat.beq_refl] at p3; cases p3) v (fun e => ?_) g1, g2⟩
        have p3 := p2.2
        rw [e, Nat.beq_refl, Bool.true_and] at p3
        rw [ae_cat2 g2, p3]; rfl
      have w := ih dd y m.2.2.1 k _ _ [] cxs outs q ρ d lw2 [] h' T n0 hd hT hn hnb hw ⟨gH.1, gH.2.1, H3, hl3, trivial⟩ hcx
      refine ae_W_fr (fun p j hpj => z2 p j (ae_sub2_ok hb.2 hpj)) w (fun n x hx => ?_)
      rw [← hy] at hx
      obtain ⟨n', hn'⟩ := z5 n x hx
      rw [hy, hpc] at hn'
      exact ⟨n', hn'⟩
    · cases q
  · split at q
    · exact ih2 dd y pc k M lv st cxs outs q ρ d lw sw h T n0 hd hT hn hnb hw gH hcx
    · rename_i cu hcu
      split at q
      · rename_i c hc
        obtain ⟨hb, q⟩ := ae_bif q
        have hm := List.mem_of_find?_eq_some hc
        have hs := List.find?_some hc
        obtain ⟨rfl, w⟩ := ae_bk_ok hr hf gH (hcx c hm) hb
        rw [Nat.eq_of_beq_eq_true hs] at w
        exact w
      · split at q
        · rename_i c hc
          obtain ⟨rfl, hpc, ρ2, u2, k02, w6, w7, w8, ρ3, zs, u3, mm3, d3⟩ := ae_gn_ok hr hf gH hc
          obtain rfl := ae_sw0 gH.2.2.2.2
          have hN : c.2.1.1 ≤ (ae_gx c).1.1 := u3.1
          have claim : ∀ (μ : Nat) (ρ3 : Nat → Int) (lw : am_L) (h : List am_E) (zs : List Int), ae_ag c.2.1.1 ρ2 ρ3 → ae_mm P.1 ρ3 L xs (ae_gx c).1 (ae_gx c).2.2.1 (ae_gx c).2.1 [] lw [] h → ae_dns (ae_gx c).1.1 ρ3 (ae_gx c).2.2.2 zs → ae_ms c zs < μ → ae_W P.1 P.2.1 L xs n0 ρ3 T d y pc lw [] h := by
            intro μ
            induction μ with
            | zero => intro _ _ _ _ _ _ _ hz; exact absurd hz (Nat.not_lt_zero _)
            | succ μ ihμ =>
              intro ρ3 lw h zs a3 m3 d3 hz
              have aρ : ae_ag k.1 ρ ρ3 := fun s hs => by rw [a3 s (Nat.lt_of_lt_of_le hs u2.1)]; exact u2.2.1 s hs
              refine ih2 dd y pc (ae_gx c).1 (ae_gx c).2.2.1 (ae_gx c).2.1 [] (c :: cxs) outs q ρ3 d lw [] h T n0 hd hT (Nat.le_trans hn (Nat.le_trans u2.1 hN)) (Nat.le_trans hnb (Nat.le_trans u2.1 hN)) (ae_w0_up hrc hnb aρ hw) m3 (fun c' hc' => ?_)
              rcases List.mem_cons.mp hc' with rfl | hc'
              · refine ⟨Nat.le_trans hn u2.1, hN, Nat.le_refl _, ae_okK_ext u2.2.2 a3, ⟨k02.1, by rw [a3 0 k02.1.1]; exact k02.2⟩, w6, w7, w8, zs, d3, fun ρ' lw' h' zs' g1 g2 g3 g4 => ?_⟩
                have := ihμ ρ' lw' h' zs' (ae_ag_tr (Nat.le_refl _) a3 g1) g2 g3 (by have := ae_ms_lt g4; omega)
                rw [hpc]
                exact this
              · exact ae_Cok_up (Nat.le_trans u2.1 hN) aρ (hcx c' hc')
          have w := claim (ae_ms c zs + 1) ρ3 lw h zs u3.2.1 mm3 d3 (Nat.lt_succ_self _)
          exact ae_W_ag (fun s hs => by rw [u3.2.1 s (Nat.lt_of_lt_of_le hs (Nat.le_trans hn u2.1))]; exact u2.2.1 s (Nat.lt_of_lt_of_le hs hn)) w
        · exact ih2 dd y pc k M lv st cxs outs q ρ d lw sw h T n0 hd hT hn hnb hw gH hcx
theorem ae_b4_ok (hr : ae_rok = true) (hf : ae_fok = true) (hL : L ≤ 3072) (hsf : ∀ s ∈ P.2.2.2.2.2.2.2, ae_CS s.1 s.2.1 s.2.2) (ih : ae_main P L xs E nb W0 (ae_b3 P go)) : ae_main P L xs E nb W0 (ae_b4 P go) := by
  intro dd y pc k M lv st cxs outs q ρ d lw sw h T n0 hd hT hn hnb hw gH hcx
  unfold ae_b4 at q
  split at q
  · split at q
    · rename_i rs hs1
      obtain ⟨s, hmem, hs⟩ := List.exists_of_findSome?_eq_some hs1
      cases q
      unfold ae_sfx at hs
      obtain ⟨hb, h1⟩ := ae_bif hs
      simp only [Bool.and_eq_true] at hb
      obtain ⟨⟨⟨s1, s2⟩, s3⟩, s4⟩ := hb
      obtain rfl := ae_sw0 gH.2.2.2.2
      have hy := Nat.eq_of_beq_eq_true s1
      have hpc := Nat.eq_of_beq_eq_true s2
      obtain ⟨vs, v1, v2⟩ := ae_fll_ok gH.1 gH.2.2.2.1 s3
      obtain ⟨g1, ρ1, k1, es, g2, g3, g4, g5⟩ := ae_cc_ok (rest := []) (rw' := []) hr hf gH (show ae_sr k.1 ρ [] [] from trivial) h1
      obtain ⟨n1, r, h', z1, z2, z3, z4, z5⟩ := hsf s hmem L xs vs lw h d hL v1 v2 g1 (ae_prc_ok g2.2.2 g3 g4) (by have := Nat.le_of_ble_eq_true s4; omega)
      obtain ⟨f1, z, m, -, ρ', u, gm⟩ := g5 r h' z2 z3 z4 z5
      rw [hy, hpc] at z1
      refine ⟨n1, r, h', z1, f1, _, hT _ (List.mem_map.mpr ⟨z, m, rfl⟩), ρ', Nat.le_trans hn u.1, fun s hs => u.2.1 s (Nat.lt_of_lt_of_le hs hn), u.2.2, gm.2.1, gm.2.2.1, ?_⟩
      have hsr := gm.2.2.2.2
      unfold ae_ro
      cases r with
      | none =>
        cases hst : z.2.2.2.2 with
        | nil => rfl
        | cons a t => rw [hst] at hsr; exact absurd hsr id
      | some v =>
        cases hst : z.2.2.2.2 with
        | nil => rw [hst] at hsr; exact absurd hsr id
        | cons a t => rw [hst] at hsr; exact ⟨v, rfl, hsr.1⟩
    · exact ih dd y pc k M lv [] cxs outs q ρ d lw sw h T n0 hd hT hn hnb hw gH hcx
  · exact ih dd y pc k M lv _ cxs outs q ρ d lw sw h T n0 hd hT hn hnb hw gH hcx
theorem ae_go_ok (hr : ae_rok = true) (hf : ae_fok = true) (hL : L ≤ 3072) (hct : ∀ c ∈ P.2.2.1, ae_CT c) (hmc : ∀ m ∈ P.2.2.2.2.1, ae_MOK m) (hsf : ∀ s ∈ P.2.2.2.2.2.2.2, ae_CS s.1 s.2.1 s.2.2) (hrc : ae_rec P L xs E nb W0) : ∀ n, ae_main P L xs E nb W0 (ae_go P n) := by
  intro n
  induction n with
  | zero => intro dd y pc k M lv st cxs outs q; cases q
  | succ n ih => exact ae_b4_ok hr hf hL hsf (ae_b3_ok hr hf hL hmc hrc ih (ae_b2_ok hr hrc (ae_b1_ok hr hf hL hct hrc ih)))
end AMO
/-! a contract is kept -/
noncomputable def ae_k00 : ae_K := (1, [(0, 0, 3072)], [], [])
noncomputable def ae_ia : List ae_Ag → ae_K → Option (ae_K × List ae_V)
  | [], k => some (k, [])
  | s :: r, k => bif Nat.ble 3 s.1 then (ae_ia r (ae_new k s.2.2.1 s.2.2.2)).bind fun z => some (z.1, (0, 0, ae_pls (ae_scl (s.1 : Int) (ae_sym k.1)) (s.2.1 : Int)) :: z.2) else bif Nat.beq s.1 2 then (ae_ia r k).bind fun z => some (z.1, (2, s.2.1, ae_num 0) :: z.2) else
      bif Nat.blt s.1 2 then (ae_mk k (s.1, s.2.2.1, s.2.2.2)).bind fun q => (ae_ia r q.1).bind fun z => some (z.1, q.2 :: z.2) else none
theorem ae_ia_ok : ∀ {ss : List ae_Ag} {vs : List Value} {ρ : Nat → Int} {k : ae_K} {z : ae_K × List ae_V}, ae_okK ρ k → ae_avs ss vs → ae_ia ss k = some z → ∃ ρ', ae_up2 ρ k ρ' z.1 ∧ ae_sr z.1.1 ρ' z.2 vs
  | [], [], ρ, k, z, hK, _, q => by cases q; exact ⟨ρ, ⟨Nat.le_refl _, ae_ag_rf _ _, hK⟩, trivial⟩
  | s :: r, v :: t, ρ, k, z, hK, ha, q => by
    unfold ae_ia at q
    cases hb3 : Nat.ble 3 s.1 with
    | true =>
      rw [hb3] at q
      obtain ⟨w, h1, q⟩ := Option.bind_eq_some_iff.mp (show ((ae_ia r (ae_new k s.2.2.1 s.2.2.2)).bind _) = some z from q)
      cases q
      obtain ⟨s1, s2, s3, s4⟩ := s
      have h3 : 3 ≤ s1 := Nat.le_of_ble_eq_true hb3
      obtain ⟨n, rfl⟩ : ∃ n, s1 = n + 3 := ⟨s1 - 3, by omega⟩
      obtain ⟨x, y, rfl, l1, l2, l3⟩ := ha.1
      have l3 : x.toInt = (s2 : Int) + ((n + 3 : Nat) : Int) * y := l3
      have l1 : s3 ≤ y := l1
      have l2 : y ≤ s4 := l2
      have K1 : ae_okK (ae_up ρ k.1 y) (ae_new k s3 s4) := ae_new_ok hK l1 l2
      obtain ⟨ρ2, u2, g2⟩ := ae_ia_ok K1 ha.2 h1
      have d0 := ae_sym_dn (n := k.1 + 1) (ρ := ae_up ρ k.1 y) (s := k.1) (Nat.lt_succ_self _)
      rw [ae_up_at] at d0
      have d1 := ae_pls_dn (ae_scl_dn d0 ((n + 3 : Nat) : Int)) (s2 : Int)
      have e1 : ((n + 3 : Nat) : Int) * y + (s2 : Int) = x.toInt := by rw [l3]; omega
      rw [e1] at d1
      exact ⟨ρ2, ae_up2.tr ⟨Nat.le_succ _, ae_up_ag _ _ _, K1⟩ u2, ⟨x, rfl, ae_dn_ext u2.1 u2.2.1 d1⟩, g2⟩
    | false =>
    rw [hb3] at q
    change (bif Nat.beq s.1 2 then _ else _) = some z at q
    cases hb : Nat.beq s.1 2 with
    | true =>
      rw [hb] at q
      obtain ⟨w, h1, q⟩ := Option.bind_eq_some_iff.mp q
      cases q
      obtain ⟨ρ1, u1, g1⟩ := ae_ia_ok hK ha.2 h1
      refine ⟨ρ1, u1, ?_, g1⟩
      have h2 := ha.1
      unfold ae_av at h2
      rw [Nat.eq_of_beq_eq_true hb] at h2
      exact h2
    | false =>
      rw [hb] at q
      obtain ⟨hc, q⟩ := ae_bif (show (bif Nat.blt s.1 2 then _ else none) = some z from q)
      obtain ⟨w, h1, q⟩ := Option.bind_eq_some_iff.mp q
      obtain ⟨x, h2, q⟩ := Option.bind_eq_some_iff.mp q
      cases q
      have hio : ae_io (s.1, s.2.2.1, s.2.2.2) v := by
        have h3 := ha.1
        have h4 := Nat.blt_eq.mp hc
        obtain ⟨s1, s2, s3, s4⟩ := s
        have h4 : s1 < 2 := h4
        match s1, h4, h3 with
        | 0, _, h3 => exact h3
        | 1, _, h3 => exact h3
        | n + 2, h4, _ => exact absurd h4 (by omega)
      obtain ⟨ρ1, u1, g1⟩ := ae_mk_ok (z := (s.1, s.2.2.1, s.2.2.2)) (i := (s.1, s.2.2.1, s.2.2.2)) hK ⟨rfl, Int.le_refl _, Int.le_refl _⟩ (fun e => by have := Nat.blt_eq.mp hc; have e : s.1 = 2 := e; omega) hio h1
      obtain ⟨ρ2, u2, g2⟩ := ae_ia_ok u1.2.2 ha.2 h2
      exact ⟨ρ2, u1.tr u2, ae_ok_ext u2.1 u2.2.1 g1, g2⟩
  | [], _ :: _, _, _, _, _, ha, _ => absurd ha id
  | _ :: _, [], _, _, _, _, ha, _ => absurd ha id
noncomputable def ae_ac (k : ae_K) : ae_Al → List ae_X → List ae_X → Bool
  | [], [], [] => true
  | a :: s, e :: r, f :: t => ae_rg k f a.2.2.1 a.2.2.2 && (!a.1 || ae_z k (ae_pls (ae_sub e f) a.2.1)) && ae_ac k s r t
  | _, _, _ => false
theorem ae_ac_ok {ρ : Nat → Int} {k : ae_K} (hK : ae_okK ρ k) {n m : Nat} {L : Nat} {xs : Nat → Int32} {h h' : List am_E} : ∀ {ws : ae_Wa} {al : ae_Al} {es fs : List ae_X}, ae_old n ρ L xs h ws es → ae_old m ρ L xs h' ws fs → ae_ac k al es fs = true → ae_ao L xs h h' ws al
  | [], [], [], [], _, _, _ => trivial
  | w :: ws, a :: s, e :: r, f :: t, h1, h2, q => by
    unfold ae_ac at q
    simp only [Bool.and_eq_true] at q
    obtain ⟨⟨q1, q2⟩, q3⟩ := q
    have g1 := ae_rg_ok hK q1
    rw [h2.1.2] at g1
    refine ⟨⟨g1.1, g1.2, fun ha => ?_⟩, ae_ac_ok hK h1.2 h2.2 q3⟩
    rw [ha] at q2
    have g2 := ae_z_ok hK (show ae_z k (ae_pls (ae_sub e f) a.2.1) = true from by simpa using q2)
    rw [ae_pls_ev, ae_sub_ev, h1.1.2, h2.1.2] at g2
    omega
  | [], _ :: _, [], [], _, _, q => by cases q
  | [], _, _ :: _, _, h1, _, _ => absurd h1 id
  | [], _, [], _ :: _, _, h2, _ => absurd h2 id
  | _ :: _, _, [], _, h1, _, _ => absurd h1 id
  | _ :: _, _, _ :: _, [], _, h2, _ => absurd h2 id
  | _ :: _, [], _ :: _, _ :: _, _, _, q => by cases q
noncomputable def ae_fi (c : ae_Ct) (olds : List ae_X) (o : ae_Ou) : Bool := match ae_vd c.2.2.2.2.2.2.1 o.1 o.2.1 with
  | some M => (match c.2.2.1 with
      | none => (match o.2.2 with
        | none => true
        | some _ => false)
      | some i => (match o.2.2 with
        | some a => ae_wi o.1 a i
        | none => false)) &&
    (match ae_wl c.2.2.2.2.2.2.1 c.2.2.2.2.1 o.1 M with
      | some z => c.2.2.2.2.2.1.any fun al => ae_ac z.1 al olds z.2.2
      | none => false)
  | none => false
noncomputable def ae_Pc (c : ae_Ct) (cts : List ae_Ct) (rc : Option (ae_Ct × Int × ae_X)) (mcs : List ae_Mc) (cus : List (Nat × Nat × ae_Cu)) (sps : List ae_Sp) (sfs : List (Nat × List (Int × Int) × ae_Ct)) : ae_P := (c.2.2.2.2.2.2.1, c.2.2.2.1, cts, rc, mcs, cus, sps, sfs)
noncomputable def ae_chc (fuel : Nat) (c : ae_Ct) (cts : List ae_Ct) (rc : Option (ae_Ct × Int)) (mcs : List ae_Mc) (cus : List (Nat × Nat × ae_Cu)) (sps : List ae_Sp) (sfs : List (Nat × List (Int × Int) × ae_Ct)) (pc0 : Nat) (pre : List (Int × Int)) : Bool := ae_wok c.2.2.2.2.1 &&
  (match ae_ia c.2.1 ae_k00 with
  | some a => (match ae_wl c.2.2.2.2.2.2.1 c.2.2.2.2.1 a.1 [] with
    | some w => (ae_ask w.1 (ae_prl pre w.2.2)).all fun k1 => (match ae_go (ae_Pc c cts (rc.bind fun q => w.2.2.head?.bind fun e => some (q.1, q.2, e)) mcs cus sps sfs) fuel c.2.2.2.2.2.2.2 c.1 pc0 k1 w.2.1 (ae_ag2 0 a.2) [] [] with
      | some outs => outs.all (ae_fi c w.2.2)
      | none => false)
    | none => false)
  | none => false)

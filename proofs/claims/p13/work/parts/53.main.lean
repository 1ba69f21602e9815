/-! The evaluator is sound -/
noncomputable def ae_lt2 (lw : am_L) (c : Nat × Bool × Int) : Prop := bif c.2.1 then ∃ p : Nat, am_lk lw c.1 = some (.ref p) ∧ (p : Int) = c.2.2 else ∃ x : Int32, am_lk lw c.1 = some (.int x) ∧ x.toInt = c.2.2
noncomputable def ae_MOK (m : ae_Mc) : Prop := ∀ (L : Nat) (xs : Nat → Int32) (d : Nat) (lw : am_L) (h : List am_E), L ≤ 3072 → (∀ c ∈ m.2.2.2.2.1, ae_lt2 lw c) → ae_hk false L xs h →
  ∃ h2 lw2, ae_hk false L xs h2 ∧ ae_fr m.2.2.2.2.2.1 L xs h h2 ∧ (∀ i, i ≠ m.2.2.2.1 → ∀ v, (i + 1 = m.2.2.2.1 → v.category = 1) → am_lk lw i = some v → am_lk lw2 i = some v) ∧
    (∀ t ∈ m.2.2.2.2.2.2, ∀ j, j < t.2.2.2.2 → ae_cell L xs h2 t.2.2.1 (t.2.2.2.1 + j) = ae_cell L xs h t.1 (t.2.1 + j)) ∧
    ∀ n x, am_go L xs n d m.1 m.2.2.1 lw2 [] h2 = some x → ∃ n', am_go L xs n' d m.1 m.2.1 lw [] h = some x
section AMS
variable {L : Nat} {xs : Nat → Int32} {n d y pc a b : Nat} {i : Instr} {lw : am_L} {sw : List Value} {h h1 : List am_E} {x : Option Value × List am_E}
theorem am_st0 (hc : am_code y pc = some (i, a, b)) (hR : am_isR i = true) (hs : am_ret i (am_inf y).2.2.2 sw h = some x) : am_go L xs 1 d y pc lw sw h = some x := by
  rw [am_go_succ]
  show ((am_code y pc).bind _) = some x
  rw [hc]
  show (bif am_isR i then am_ret i (am_inf y).2.2.2 sw h else _) = some x
  rw [hR]
  exact hs
theorem am_st1 {z : am_R4} (hc : am_code y pc = some (i, a, b)) (hR : am_isR i = false) (hC : am_isC i = false) (hs : am_simple L xs (am_inf y).1 (am_inf y).2.1 (am_inf y).2.2.1 i a b pc lw sw h = some z) (ha : am_app h z.2.2.2 = some h1) (hg : am_go L xs n d y z.1 z.2.1 z.2.2.1 h1 = some x) : am_go L xs (n + 1) d y pc lw sw h = some x := by
  rw [am_go_succ]
  show ((am_code y pc).bind _) = some x
  rw [hc]
  show (bif am_isR i then _ else bif am_isC i then _ else (am_simple L xs (am_inf y).1 (am_inf y).2.1 (am_inf y).2.2.1 i a b pc lw sw h).bind fun z => (am_app h z.2.2.2).bind fun h' => am_go L xs n d y z.1 z.2.1 z.2.2.1 h') = some x
  rw [hR, hC, hs]
  show ((am_app h z.2.2.2).bind fun h' => am_go L xs n d y z.1 z.2.1 z.2.2.1 h') = some x
  rw [ha]
  exact hg
theorem am_st2 {z : am_R4} (hc : am_code y pc = some (i, a, b)) (hR : am_isR i = false) (hC : am_isC i = true) (hA : Nat.ble 1000 a = true) (hd : Nat.ble 1 d = true) (hcat : Nat.ble (am_cats sw) 16 = true) (hs : am_sys a pc lw sw h = some z) (ha : am_app h z.2.2.2 = some h1) (hg : am_go L xs n d y z.1 z.2.1 z.2.2.1 h1 = some x) : am_go L xs (n + 1) d y pc lw sw h = some x := by
  rw [am_go_succ]
  show ((am_code y pc).bind _) = some x
  rw [hc]
  show (bif am_isR i then _ else bif am_isC i then am_inv (am_go L xs n) d y i a b pc lw sw h else _) = some x
  rw [hR, hC]
  show am_inv (am_go L xs n) d y i a b pc lw sw h = some x
  unfold am_inv
  rw [hA, hd, hcat, hs]
  show ((am_app h z.2.2.2).bind fun h' => am_go L xs n d y z.1 z.2.1 z.2.2.1 h') = some x
  rw [ha]
  exact hg
theorem am_st3 {r : Option Value} {n1 n2 : Nat} (hc : am_code y pc = some (i, a, b)) (hR : am_isR i = false) (hC : am_isC i = true) (hA : Nat.ble 1000 a = false) (hb : (Nat.ble (am_pop i b) sw.length && Nat.ble (am_cats (sw.drop (am_pop i b))) 8 && am_rcv i a (sw.take (am_pop i b)).reverse h (am_inf a).1 && Nat.ble (am_cats (sw.take (am_pop i b))) (am_inf a).2.2.1) = true)
    (hg1 : am_go L xs n1 d a 0 (lv_args 0 (sw.take (am_pop i b)).reverse) [] h = some (r, h1)) (hg2 : am_go L xs n2 (d + 1) y (pc + 3) lw (r.toList ++ sw.drop (am_pop i b)) h1 = some x) : am_go L xs (n1 + n2 + 1) (d + 1) y pc lw sw h = some x := by
  rw [am_go_succ]
  show ((am_code y pc).bind _) = some x
  rw [hc]
  show (bif am_isR i then _ else bif am_isC i then am_inv (am_go L xs (n1 + n2)) (d + 1) y i a b pc lw sw h else _) = some x
  rw [hR, hC]
  show am_inv (am_go L xs (n1 + n2)) (d + 1) y i a b pc lw sw h = some x
  unfold am_inv
  rw [hA]
  show am_if _ _ = some x
  rw [hb]
  show ((am_go L xs (n1 + n2) d a 0 (lv_args 0 (sw.take (am_pop i b)).reverse) [] h).bind fun q => am_go L xs (n1 + n2) (d + 1) y (pc + 3) lw (q.1.toList ++ sw.drop (am_pop i b)) q.2) = some x
  rw [am_go_more L xs n1 d a 0 _ _ h _ (n1 + n2) hg1 (Nat.le_add_right _ _)]
  exact am_go_more L xs n2 (d + 1) y (pc + 3) _ _ h1 _ (n1 + n2) hg2 (Nat.le_add_left _ _)
end AMS
section AMB
variable {ρ : Nat → Int} {n : Nat}
theorem ae_sr_len : ∀ {s : List ae_V} {t : List Value}, ae_sr n ρ s t → s.length = t.length
  | [], [], _ => rfl
  | _ :: s, _ :: t, q => by rw [List.length_cons, List.length_cons, ae_sr_len q.2]
  | [], _ :: _, q => absurd q id
  | _ :: _, [], q => absurd q id
theorem ae_sr_take : ∀ {s : List ae_V} {t : List Value} (m : Nat), ae_sr n ρ s t → ae_sr n ρ (s.take m) (t.take m)
  | _, _, 0, _ => trivial
  | [], [], _ + 1, _ => trivial
  | _ :: s, _ :: t, m + 1, q => ⟨q.1, ae_sr_take m q.2⟩
  | [], _ :: _, _ + 1, q => absurd q id
  | _ :: _, [], _ + 1, q => absurd q id
theorem ae_sr_drop : ∀ {s : List ae_V} {t : List Value} (m : Nat), ae_sr n ρ s t → ae_sr n ρ (s.drop m) (t.drop m)
  | _, _, 0, q => q
  | [], [], _ + 1, _ => trivial
  | _ :: s, _ :: t, m + 1, q => ae_sr_drop (s := s) (t := t) m q.2
  | [], _ :: _, _ + 1, q => absurd q id
  | _ :: _, [], _ + 1, q => absurd q id
theorem ae_sr_app : ∀ {s : List ae_V} {t : List Value} {s2 : List ae_V} {t2 : List Value}, ae_sr n ρ s t → ae_sr n ρ s2 t2 → ae_sr n ρ (s ++ s2) (t ++ t2)
  | [], [], _, _, _, q => q
  | _ :: s, _ :: t, _, _, q, q2 => ⟨q.1, ae_sr_app q.2 q2⟩
  | [], _ :: _, _, _, q, _ => absurd q id
  | _ :: _, [], _, _, q, _ => absurd q id
theorem ae_sr_rev : ∀ {s : List ae_V} {t : List Value}, ae_sr n ρ s t → ae_sr n ρ s.reverse t.reverse
  | [], [], _ => trivial
  | _ :: s, _ :: t, q => by rw [List.reverse_cons, List.reverse_cons]; exact ae_sr_app (ae_sr_rev q.2) ⟨q.1, trivial⟩
  | [], _ :: _, q => absurd q id
  | _ :: _, [], q => absurd q id
theorem ae_ag2_ge : ∀ {s : List ae_V} {i : Nat} {q : Nat × ae_V}, q ∈ ae_ag2 i s → i ≤ q.1
  | [], _, _, h => absurd h List.not_mem_nil
  | a :: s, i, q, h => by
    rcases List.mem_cons.mp h with rfl | h
    · exact Nat.le_refl _
    · have := ae_ag2_ge h
      cases hb : Nat.beq a.1 1 with
      | true => rw [hb] at this; have : i + 2 ≤ q.1 := this; omega
      | false => rw [hb] at this; have : i + 1 ≤ q.1 := this; omega
theorem ae_ag2_ok : ∀ {s : List ae_V} {t : List Value} (i : Nat), ae_sr n ρ s t → ae_lr n ρ (ae_ag2 i s) (lv_args i t)
  | [], [], _, _ => fun q hq => absurd hq List.not_mem_nil
  | a :: s, v :: t, i, q => by
    have e : (if v.category = 2 then i + 2 else i + 1) = (bif Nat.beq a.1 1 then i + 2 else i + 1) := by
      rw [ae_cat2 q.1]
      cases Nat.beq a.1 1 <;> rfl
    intro p hp
    rcases List.mem_cons.mp hp with rfl | hp
    · exact ⟨v, by show (bif Nat.beq i i then some v else _) = some v; rw [Nat.beq_refl]; rfl, q.1⟩
    · obtain ⟨w, h1, h2⟩ := ae_ag2_ok (s := s) (t := t) _ q.2 p hp
      have hge := ae_ag2_ge hp
      refine ⟨w, ?_, h2⟩
      show (bif Nat.beq i p.1 then some v else am_lk (lv_args (if v.category = 2 then i + 2 else i + 1) t) p.1) = some w
      have hne : Nat.beq i p.1 = false := by
        cases hb : Nat.beq i p.1 with
        | true =>
          have h3 := Nat.eq_of_beq_eq_true hb
          cases hc : Nat.beq a.1 1 with
          | true => rw [hc] at hge; have : i + 2 ≤ p.1 := hge; omega
          | false => rw [hc] at hge; have : i + 1 ≤ p.1 := hge; omega
        | false => rfl
      rw [hne, e]
      exact h1
  | [], _ :: _, _, q => absurd q id
  | _ :: _, [], _, q => absurd q id
theorem ae_rcv_ok {i : Instr} {a own : Nat} {h : List am_E} (hs : ae_shp h) {s : List ae_V} {t : List Value} (hq : ae_sr n ρ s t) (q : ae_rcv i s own = true) : am_rcv i a t h own = true := by
  unfold ae_rcv at q
  split at q
  · split at q
    · rename_i v r
      rw [Bool.and_eq_true] at q
      obtain ⟨w, t', rfl, g1, g2⟩ := ae_sr1 hq
      obtain rfl := ae_ok2 g1 q.1
      obtain ⟨i, fs, -, -, -, -, -, e⟩ := ae_obj hs q.2
      show (am_ob h v.2.1 own).isSome = true
      rw [e]; rfl
    · cases q
  · split at q
    · rename_i v r
      obtain ⟨w, t', rfl, g1, g2⟩ := ae_sr1 hq
      obtain rfl := ae_ok2 g1 q
      rfl
    · cases q
  · rfl
  · cases q
theorem ae_re_ok {ex : Bool} {L : Nat} {xs : Nat → Int32} {k : ae_K} {M : List ae_M} {lv : ae_L} {st : List ae_V} {lw : am_L} {sw : List Value} {h : List am_E} {i : Instr} {rk : Nat} {o : List ae_Ou} (gH : ae_mm ex ρ L xs k M lv st lw sw h) (q : ae_re i rk k M st = some o) : ∃ r, am_ret i rk sw h = some (r, h) ∧ ∃ z ∈ o, z.1 = k ∧ z.2.1 = M ∧ ae_ro k.1 ρ z.2.2 r := by
  have hst := gH.2.2.2.2
  unfold ae_re at q
  split at q
  · split at q
    · obtain ⟨hb, q⟩ := ae_bif q
      cases q
      cases sw with
      | nil => exact ⟨none, by show am_if (Nat.beq rk 0) _ = _; rw [hb]; rfl, _, List.mem_singleton.mpr rfl, rfl, rfl, rfl⟩
      | cons v t => exact absurd hst id
    · cases q
  · split at q
    · rename_i v
      obtain ⟨hb, q⟩ := ae_bif q
      cases q
      rw [Bool.and_eq_true] at hb
      obtain ⟨w, t, rfl, g1, g2⟩ := ae_sr1 hst
      cases t with
      | cons _ _ => exact absurd g2 id
      | nil =>
        obtain ⟨x, rfl, d⟩ := ae_ok0 g1 hb.1
        refine ⟨some (.int x), ?_, _, List.mem_singleton.mpr rfl, rfl, rfl, _, rfl, g1⟩
        show am_if (Nat.beq rk 1 || (Nat.beq rk 2 && decide (x &&& 1 = x))) _ = _
        have h2 := hb.2
        rw [Bool.or_eq_true] at h2
        rcases h2 with h2 | h2
        · rw [h2]; rfl
        · rw [Bool.and_eq_true] at h2
          have h3 := ae_rg_ok gH.1 h2.2
          rw [d.2] at h3
          have h4 : x &&& 1 = x := by rcases ae_01 h3.1 h3.2 with rfl | rfl <;> decide +kernel
          rw [h2.1, decide_eq_true h4, Bool.and_self, Bool.or_true]; rfl
    · cases q
  · split at q
    · rename_i v
      obtain ⟨hb, q⟩ := ae_bif q
      cases q
      rw [Bool.and_eq_true] at hb
      obtain ⟨w, t, rfl, g1, g2⟩ := ae_sr1 hst
      cases t with
      | cons _ _ => exact absurd g2 id
      | nil =>
        obtain ⟨x, rfl, d⟩ := ae_ok1 g1 hb.1
        exact ⟨some (.long x), by show am_if (Nat.beq rk 3) _ = _; rw [hb.2]; rfl, _, List.mem_singleton.mpr rfl, rfl, rfl, _, rfl, g1⟩
    · cases q
  · cases q
end AMB
/-- what the evaluator's own contract may be called with -/
noncomputable def ae_rec (P : ae_P) (L : Nat) (xs : Nat → Int32) (E nb : Nat) (W0 : Int) : Prop := ∀ c K w0, P.2.2.2.1 = some (c, K, w0) → E = 2 * (K - W0).toNat ∧ ae_wt nb w0.2 ∧
  ∀ vs h d, ae_avs c.2.1 vs → ae_hk c.2.2.2.2.2.2.1 L xs h → (∃ w r, c.2.2.2.2.1 = w :: r ∧ W0 + 1 ≤ ae_wv L xs h w ∧ ae_wv L xs h w ≤ K ∧ c.2.2.2.2.2.2.2 + 2 * (K - ae_wv L xs h w).toNat ≤ d) → ae_C1 c L xs vs h d
noncomputable def ae_w0 (P : ae_P) (ρ : Nat → Int) (W0 : Int) : Prop := ∀ c K w0, P.2.2.2.1 = some (c, K, w0) → ae_ev ρ w0 = W0
noncomputable def ae_main (P : ae_P) (L : Nat) (xs : Nat → Int32) (E nb : Nat) (W0 : Int) (go : ae_Go) : Prop :=
  ∀ (dd y pc : Nat) (k : ae_K) (M : List ae_M) (lv : ae_L) (st : List ae_V) (cxs : List ae_Cx) (outs : List ae_Ou), go dd y pc k M lv st cxs = some outs →
  ∀ (ρ : Nat → Int) (d : Nat) (lw : am_L) (sw : List Value) (h : List am_E) (T : List ae_Ou) (n0 : Nat), dd + E ≤ d → (∀ o ∈ outs, o ∈ T) → n0 ≤ k.1 → nb ≤ k.1 → ae_w0 P ρ W0 → ae_mm P.1 ρ L xs k M lv st lw sw h → (∀ c ∈ cxs, ae_Cok c P.1 P.2.1 L xs n0 T d y k ρ) → ae_W P.1 P.2.1 L xs n0 ρ T d y pc lw sw h
theorem ae_w0_up {P : ae_P} {L : Nat} {xs : Nat → Int32} {E nb : Nat} {W0 : Int} (hrc : ae_rec P L xs E nb W0) {ρ ρ' : Nat → Int} {n : Nat} (hn : nb ≤ n) (a : ae_ag n ρ ρ') (q : ae_w0 P ρ W0) : ae_w0 P ρ' W0 := by
  intro c K w0 e
  rw [ae_ev_ag (fun s hs => a s (Nat.lt_of_lt_of_le hs hn)) (hrc c K w0 e).2.1]
  exact q c K w0 e
section AMN
variable {P : ae_P} {L : Nat} {xs : Nat → Int32} {E nb : Nat} {W0 : Int} {go : ae_Go}
/-- on from the states behind a step -/
theorem ae_on (hrc : ae_rec P L xs E nb W0) (ih : ae_main P L xs E nb W0 go) {dd y : Nat} {rs : List ae_R} {cxs : List ae_Cx} {outs : List ae_Ou} (q : ae_cat (fun z : ae_R => go dd y z.1 z.2.1 z.2.2.1 z.2.2.2.1 z.2.2.2.2 cxs) rs = some outs)
    {ρ ρ' : Nat → Int} {d : Nat} {k : ae_K} {lw : am_L} {sw : List Value} {h : List am_E} {T : List ae_Ou} {n0 : Nat} (hd : dd + E ≤ d) (hT : ∀ o ∈ outs, o ∈ T) (hn : n0 ≤ k.1) (hnb : nb ≤ k.1) (hw : ae_w0 P ρ W0) (hcx : ∀ c ∈ cxs, ae_Cok c P.1 P.2.1 L xs n0 T d y k ρ) {z : ae_R} (hz : z ∈ rs) (u : ae_up2 ρ k ρ' z.2.1) (gH : ae_mm P.1 ρ' L xs z.2.1 z.2.2.1 z.2.2.2.1 z.2.2.2.2 lw sw h) : ae_W P.1 P.2.1 L xs n0 ρ T d y z.1 lw sw h := by
  obtain ⟨x, g1, g2⟩ := ae_cat_ok q hz
  have h1 := ih dd y z.1 z.2.1 z.2.2.1 z.2.2.2.1 z.2.2.2.2 cxs x g1 ρ' d lw sw h T n0 hd (fun o ho => hT o (g2 o ho)) (Nat.le_trans hn u.1) (Nat.le_trans hnb u.1) (ae_w0_up hrc hnb u.2.1 hw) gH (fun c hc => ae_Cok_up u.1 u.2.1 (hcx c hc))
  exact ae_W_ag (fun s hs => u.2.1 s (Nat.lt_of_lt_of_le hs hn)) h1
theorem ae_W_fr {ex : Bool} {mo : ae_Mo} {n0 : Nat} {ρ : Nat → Int} {T : List ae_Ou} {d y pc pc' : Nat} {lw lw' : am_L} {sw sw' : List Value} {h h1 : List am_E} (f : ae_fr mo L xs h h1) (w : ae_W ex mo L xs n0 ρ T d y pc' lw' sw' h1) (g : ∀ n x, am_go L xs n d y pc' lw' sw' h1 = some x → ∃ n', am_go L xs n' d y pc lw sw h = some x) : ae_W ex mo L xs n0 ρ T d y pc lw sw h := by
  obtain ⟨n, r, h', g1, g2, g3⟩ := w
  obtain ⟨n', g4⟩ := g n _ g1
  exact ⟨n', r, h', g4, ae_fr_tr f g2, g3⟩
theorem ae_b1_ok (hr : ae_rok = true) (hf : ae_fok = true) (hL : L ≤ 3072) (hct : ∀ c ∈ P.2.2.1, ae_CT c) (hrc : ae_rec P L xs E nb W0) (ih : ae_main P L xs E nb W0 go) : ae_main P L xs E nb W0 (ae_b1 P go) := by
  intro dd y pc k M lv st cxs outs q ρ d lw sw h T n0 hd hT hn hnb hw gH hcx
  obtain ⟨⟨i, a, b⟩, hc, q⟩ := Option.bind_eq_some_iff.mp q
  have q : (bif am_isR i then ae_re i (am_inf y).2.2.2 k M st
    else bif am_isC i then ae_ca P go dd y i a b pc k M lv st cxs
    else (ae_sp P.1 P.2.1 (am_inf y).2.2.1 i a b pc k M lv st).bind (ae_cat fun z => go dd y z.1 z.2.1 z.2.2.1 z.2.2.2.1 z.2.2.2.2 cxs)) = some outs := q
  cases hR : am_isR i with
  | true =>
    rw [hR] at q
    obtain ⟨r, g1, z, g2, g3, g4, g5⟩ := ae_re_ok gH q
    refine ⟨1, r, h, am_st0 hc hR g1, ae_fr_rf _ _ _ _, z, hT z g2, ρ, by rw [g3]; exact hn, ae_ag_rf _ _, by rw [g3]; exact gH.1, by rw [g3]; exact gH.2.1, by rw [g3, g4]; exact gH.2.2.1, by rw [g3]; exact g5⟩
  | false =>
    rw [hR] at q
    cases hC : am_isC i with
    | false =>
      rw [hC] at q
      obtain ⟨rs, h1, q⟩ := Option.bind_eq_some_iff.mp q
      obtain ⟨z, h2, e1, e2, e3, r, m, e4, ρ', u, gm⟩ := ae_sp_ok (own := (am_inf y).1) (ini := (am_inf y).2.1) hr hf gH h1
      have w := ae_on hrc ih q hd hT hn hnb hw hcx m u gm
      rw [e4] at w
      exact ae_W_fr e3 w (fun n x hx => ⟨n + 1, am_st1 hc hR hC e1 e2 hx⟩)
    | true =>
      rw [hC] at q
      have q : ae_ca P go dd y i a b pc k M lv st cxs = some outs := q
      unfold ae_ca at q
      cases hA : Nat.ble 1000 a with
      | true =>
        rw [hA] at q
        obtain ⟨hb, q⟩ := ae_bif (show (bif Nat.ble 1 dd && Nat.ble (ae_cats st) 16 then _ else none) = some outs from q)
        rw [Bool.and_eq_true] at hb
        obtain ⟨rs, h1, q⟩ := Option.bind_eq_some_iff.mp q
        obtain ⟨z, h2, e1, e2, e3, r, m, e4, ρ', u, gm⟩ := ae_sy_ok gH h1
        have w := ae_on hrc ih q hd hT hn hnb hw hcx m u gm
        rw [e4] at w
        have hd1 : Nat.ble 1 d = true := Nat.ble_eq_true_of_le (by have := Nat.le_of_ble_eq_true hb.1; omega)
        exact ae_W_fr e3 w (fun n x hx => ⟨n + 1, am_st2 hc hR hC hA hd1 (by rw [ae_sr_cats gH.2.2.2.2]; exact hb.2) e1 e2 hx⟩)
      | false =>
        rw [hA] at q
        cases dd with
        | zero => cases q
        | succ e =>
          obtain ⟨hb, q⟩ := ae_bif (show (bif _ then _ else none) = some outs from q)
          simp only [Bool.and_eq_true] at hb
          obtain ⟨⟨⟨b1, b2⟩, b3⟩, b4⟩ := hb
          obtain ⟨d, rfl⟩ : ∃ d', d = d' + 1 := ⟨d - 1, by omega⟩
          have hst := gH.2.2.2.2
          have hargs := ae_sr_rev (ae_sr_take (am_pop i b) hst)
          have hrest := ae_sr_drop (am_pop i b) hst
          have hcond : (Nat.ble (am_pop i b) sw.length && Nat.ble (am_cats (sw.drop (am_pop i b))) 8 && am_rcv i a (sw.take (am_pop i b)).reverse h (am_inf a).1 && Nat.ble (am_cats (sw.take (am_pop i b))) (am_inf a).2.2.1) = true := by
            rw [← ae_sr_len hst, b1, ae_sr_cats hrest, b2, ae_rcv_ok gH.2.2.1.1 hargs b3, ae_sr_cats (ae_sr_take (am_pop i b) hst), b4]; rfl
          -- a call by contract
          have con : ∀ (c : ae_Ct) (chk : ae_K → List ae_X → Bool), c.1 = a → ae_fas k c.2.1 (st.take (am_pop i b)).reverse = true →
              (ae_cc P.1 P.2.1 c chk (pc + 3) k M lv (st.drop (am_pop i b))).bind (ae_cat fun z => go (e + 1) y z.1 z.2.1 z.2.2.1 z.2.2.2.1 z.2.2.2.2 cxs) = some outs →
              (ae_avs c.2.1 (sw.take (am_pop i b)).reverse → ae_hk c.2.2.2.2.2.2.1 L xs h → (∃ ρ1 k1 es, ae_up2 ρ k ρ1 k1 ∧ ae_old k1.1 ρ1 L xs h c.2.2.2.2.1 es ∧ chk k1 es = true) → ae_C1 c L xs (sw.take (am_pop i b)).reverse h d) →
              ae_W P.1 P.2.1 L xs n0 ρ T (d + 1) y pc lw sw h := by
            intro c chk hca hfas q hC1
            obtain ⟨rs, h1, q⟩ := Option.bind_eq_some_iff.mp q
            obtain ⟨g1, ρ1, k1, es, g2, g3, g4, g5⟩ := ae_cc_ok hr hf gH hrest h1
            obtain ⟨n1, r, h1', z1, z2, z3, z4, z5⟩ := hC1 (ae_fas_ok gH.1 hargs hfas) g1 ⟨ρ1, k1, es, g2, g3, g4⟩
            obtain ⟨f1, z, m, e4, ρ', u, gm⟩ := g5 r h1' z2 z3 z4 z5
            have w := ae_on hrc ih q hd hT hn hnb hw hcx m u gm
            rw [e4] at w
            rw [hca] at z1
            exact ae_W_fr f1 w (fun n x hx => ⟨n1 + n + 1, am_st3 hc hR hC hA hcond z1 hx⟩)
          split at q
          · rename_i c hcq
            obtain ⟨⟨c0, K, w0⟩, p1, p2⟩ := Option.bind_eq_some_iff.mp hcq
            obtain ⟨p3, p2⟩ := ae_bif p2
            cases p2
            rw [Bool.and_eq_true] at p3
            obtain ⟨hdep, q⟩ := ae_bif q
            have hdep : c0.2.2.2.2.2.2.2 ≤ e + 2 := Nat.le_of_ble_eq_true hdep
            obtain ⟨r1, r2, r3⟩ := hrc c0 K w0 p1
            refine con c0 _ (Nat.eq_of_beq_eq_true p3.1) p3.2 q (fun a1 a2 ⟨ρ1, k1, es, a3, a4, a5⟩ => r3 _ h d a1 a2 ?_)
            unfold ae_ci2 at a5
            split at a5
            · rename_i v t
              rw [Bool.and_eq_true] at a5
              cases hwa : c0.2.2.2.2.1 with
              | nil => rw [hwa] at a4; exact absurd a4 id
              | cons w r =>
                rw [hwa] at a4
                have s1 := ae_z_ok a3.2.2 a5.1
                have s2 := ae_z_ok a3.2.2 a5.2
                have s3 : ae_ev ρ1 w0 = W0 := ae_w0_up hrc hnb a3.2.1 hw c0 K w0 p1
                rw [ae_pls_ev, ae_sub_ev, a4.1.2, show ae_ev ρ1 (c0, K, w0).2.2 = W0 from s3] at s1
                rw [ae_pls_ev, a4.1.2] at s2
                have s1 : W0 - ae_wv L xs h w + 1 ≤ 0 := s1
                have s2 : ae_wv L xs h w + -K ≤ 0 := s2
                exact ⟨w, r, rfl, by omega, by omega, by omega⟩
            · cases a5
          · split at q
            · rename_i c hcq
              have hm := List.mem_of_find?_eq_some hcq
              have hs := List.find?_some hcq
              rw [Bool.and_eq_true] at hs
              obtain ⟨hdep, q⟩ := ae_bif q
              have hdep := Nat.le_of_ble_eq_true hdep
              exact con c _ (Nat.eq_of_beq_eq_true hs.1) hs.2 q (fun a1 a2 _ => hct c hm L xs _ h d hL a1 a2 (by omega))
            · obtain ⟨O, h1, q⟩ := Option.bind_eq_some_iff.mp q
              have w1 := ih e a 0 k M _ [] [] O h1 ρ d (lv_args 0 (sw.take (am_pop i b)).reverse) [] h O k.1 (by omega) (fun o ho => ho) (Nat.le_refl _) hnb hw ⟨gH.1, gH.2.1, gH.2.2.1, ae_ag2_ok 0 hargs, trivial⟩ (fun c hc => absurd hc List.not_mem_nil)
              obtain ⟨n1, r, h1', z1, z2, o, m, ρ', z3, z4, z5, z6, z7, z8⟩ := w1
              have u : ae_up2 ρ k ρ' o.1 := ⟨z3, z4, z5⟩
              obtain ⟨x, g1, g2⟩ := ae_cat_ok q m
              have hro : ae_sr o.1.1 ρ' (o.2.2.toList ++ st.drop (am_pop i b)) (r.toList ++ sw.drop (am_pop i b)) := by
                have hre := ae_sr_ext u.1 u.2.1 hrest
                unfold ae_ro at z8
                split at z8
                · rename_i ho
                  rw [ho, z8]
                  exact hre
                · rename_i a' ho
                  obtain ⟨v, rfl, hv⟩ := z8
                  rw [ho]
                  exact ⟨hv, hre⟩
              have w2 := ih (e + 1) y (pc + 3) o.1 o.2.1 lv (o.2.2.toList ++ st.drop (am_pop i b)) cxs x g1 ρ' (d + 1) lw (r.toList ++ sw.drop (am_pop i b)) h1' T n0 hd (fun o ho => hT o (g2 o ho)) (Nat.le_trans hn u.1) (Nat.le_trans hnb u.1) (ae_w0_up hrc hnb u.2.1 hw) ⟨z5, z6, z7, ae_lr_ext u.1 u.2.1 gH.2.2.2.1, hro⟩ (fun c hc => ae_Cok_up u.1 u.2.1 (hcx c hc))
              have w3 := ae_W_ag (fun s hs => u.2.1 s (Nat.lt_of_lt_of_le hs hn)) w2
              exact ae_W_fr z2 w3 (fun n x hx => ⟨n1 + n + 1, am_st3 hc hR hC hA hcond z1 hx⟩)
/-! cases told apart -/
theorem ae_se_ok (hr : ae_rok = true) {ex : Bool} {s : ae_Sp} {ρ : Nat → Int} {k : ae_K} {M : List ae_M} {lv : ae_L} {st : List ae_V} {lw : am_L} {sw : List Value} {h : List am_E} {z : ae_K × List ae_M × ae_X} (gH : ae_mm ex ρ L xs k M lv st lw sw h) (q : ae_se ex s k M st = some z) : ∃ ρ' x, ae_up2 ρ k ρ' z.1 ∧ ae_mm ex ρ' L xs z.1 z.2.1 lv st lw sw h ∧ ae_dn z.1.1 ρ' z.2.2 x := by
  unfold ae_se at q
  cases hb : Nat.beq s.2.2.1 0 with
  | true =>
    rw [hb] at q
    obtain ⟨v, h1, q⟩ := Option.bind_eq_some_iff.mp q
    obtain ⟨hv, q⟩ := ae_bif q
    cases q
    have : ∀ {s : List ae_V} {t : List Value} {i : Nat}, ae_sr k.1 ρ s t → s[i]? = some v → ∃ w, ae_ok k.1 ρ v w := by
      intro s
      induction s with
      | nil => intro t i _ h2; cases h2
      | cons a s ihs =>
        intro t i g1 g2
        cases t with
        | nil => exact absurd g1 id
        | cons w t =>
          cases i with
          | zero => cases g2; exact ⟨w, g1.1⟩
          | succ i => exact ihs (t := t) (i := i) g1.2 g2
    obtain ⟨w, g1⟩ := this gH.2.2.2.2 h1
    obtain ⟨x, rfl, d⟩ := ae_ok0 g1 hv
    exact ⟨ρ, x.toInt, ⟨Nat.le_refl _, ae_ag_rf _ _, gH.1⟩, gH, ae_nr_dn gH.1 d⟩
  | false =>
    rw [hb] at q
    obtain ⟨hc, q⟩ := ae_bif (show (bif _ then _ else none) = some z from q)
    simp only [Bool.and_eq_true] at hc
    obtain ⟨⟨c1, c2⟩, c3⟩ := hc
    have c1 := Nat.blt_eq.mp c1
    have c2 := Nat.le_of_ble_eq_true c2
    have c3 := Nat.blt_eq.mp c3
    obtain ⟨⟨k1, M1, a1⟩, h1, q⟩ := Option.bind_eq_some_iff.mp q
    obtain ⟨hv, q⟩ := ae_bif q
    cases q
    obtain ⟨v, hv2⟩ := ae_cell_ex (L := L) (xs := xs) gH.2.2.1.1 c1 c2 c3
    obtain ⟨ρ1, u1, H1, g1⟩ := ae_ld_ok hr gH.1 gH.2.2.1 (ae_num_dn _) hv2 (fun _ => ⟨c2, c3⟩) h1
    obtain ⟨x, rfl, d⟩ := ae_ok0 g1 hv
    exact ⟨ρ1, x.toInt, u1, ⟨u1.2.2, ae_k0_up gH.2.1 u1, H1, ae_lr_ext u1.1 u1.2.1 gH.2.2.2.1, ae_sr_ext u1.1 u1.2.1 gH.2.2.2.2⟩, ae_nr_dn u1.2.2 d⟩
theorem ae_sr_at {n : Nat} {ρ : Nat → Int} {v : ae_V} : ∀ {s : List ae_V} {t : List Value} {i : Nat}, ae_sr n ρ s t → s[i]? = some v → ∃ w, ae_ok n ρ v w
  | [], _, _, _, h2 => by cases h2
  | a :: s, [], _, g1, _ => absurd g1 id
  | a :: s, w :: t, 0, g1, g2 => by cases g2; exact ⟨w, g1.1⟩
  | a :: s, w :: t, i + 1, g1, g2 => ae_sr_at (s := s) (t := t) (i := i) g1.2 g2
theorem ae_s2x_ok {ex : Bool} {s : ae_Sp} {ρ : Nat → Int} {k : ae_K} {M : List ae_M} {lv : ae_L} {st : List ae_V} {lw : am_L} {sw : List Value} {h : List am_E} {o : List (ae_K × List ae_M)} (gH : ae_mm ex ρ L xs k M lv st lw sw h) (q : ae_s2x s k M st = some o) : ∃ z ∈ o, ∃ ρ', ae_up2 ρ k ρ' z.1 ∧ ae_mm ex ρ' L xs z.1 z.2 lv st lw sw h := by
  obtain ⟨v, h1, q⟩ := Option.bind_eq_some_iff.mp q
  obtain ⟨hv, q⟩ := ae_bif q
  cases q
  obtain ⟨w, g1⟩ := ae_sr_at gH.2.2.2.2 h1
  obtain ⟨x, rfl, d⟩ := ae_ok0 g1 hv
  have d := ae_nr_dn gH.1 d
  have key : ∃ k2 ∈ ae_ask k [ae_pls (ae_nr k v.2.2) (1 - (s.2.2.2.2 : Int))] ++ ae_ask k [ae_neg (ae_nr k v.2.2) (s.2.2.2.2 : Int)], ae_okK ρ k2 ∧ k2.1 = k.1 := by
    by_cases hx : (s.2.2.2.2 : Int) ≤ x.toInt
    · obtain ⟨k2, m, r⟩ := ae_ask_ok (es := [ae_neg (ae_nr k v.2.2) (s.2.2.2.2 : Int)]) gH.1 (fun e he => by rw [List.mem_singleton.mp he]; have := ae_neg_dn d (s.2.2.2.2 : Int); exact ⟨this.1, by rw [this.2]; omega⟩)
      exact ⟨k2, List.mem_append_right _ m, r⟩
    · obtain ⟨k2, m, r⟩ := ae_ask_ok (es := [ae_pls (ae_nr k v.2.2) (1 - (s.2.2.2.2 : Int))]) gH.1 (fun e he => by rw [List.mem_singleton.mp he]; have := ae_pls_dn d (1 - (s.2.2.2.2 : Int)); exact ⟨this.1, by rw [this.2]; omega⟩)
      exact ⟨k2, List.mem_append_left _ m, r⟩
  obtain ⟨k2, m2, K2, n2⟩ := key
  exact ⟨(k2, M), List.mem_map.mpr ⟨k2, m2, rfl⟩, ρ, ⟨by show k.1 ≤ k2.1; omega, ae_ag_rf _ _, K2⟩, K2, ⟨by show 0 < k2.1 ∧ _; rw [n2]; exact gH.2.1.1, gH.2.1.2⟩, by show ae_hp ex k2.1 ρ L xs M h; rw [n2]; exact gH.2.2.1, by show ae_lr k2.1 ρ lv lw; rw [n2]; exact gH.2.2.2.1, by show ae_sr k2.1 ρ st sw; rw [n2]; exact gH.2.2.2.2⟩
theorem ae_s1x_ok (hr : ae_rok = true) {ex : Bool} {s : ae_Sp} {ρ : Nat → Int} {k : ae_K} {M : List ae_M} {lv : ae_L} {st : List ae_V} {lw : am_L} {sw : List Value} {h : List am_E} {o : List (ae_K × List ae_M)} (gH : ae_mm ex ρ L xs k M lv st lw sw h) (q : ae_s1x ex s k M st = some o) : ∃ z ∈ o, ∃ ρ', ae_up2 ρ k ρ' z.1 ∧ ae_mm ex ρ' L xs z.1 z.2 lv st lw sw h := by
  unfold ae_s1x at q
  cases hs2 : Nat.beq s.2.2.1 2 with
  | true => rw [hs2] at q; exact ae_s2x_ok gH q
  | false =>
  rw [hs2] at q
  change ((ae_se ex s k M st).bind _) = some o at q
  obtain ⟨⟨k1, M1, e⟩, h1, q⟩ := Option.bind_eq_some_iff.mp q
  obtain ⟨ρ1, x, u1, g1, d⟩ := ae_se_ok hr gH h1
  cases hb : ae_kc e with
  | true =>
    rw [hb] at q
    cases q
    exact ⟨_, List.mem_singleton.mpr rfl, ρ1, u1, g1⟩
  | false =>
    rw [hb] at q
    obtain ⟨⟨a, s', n⟩, h2, q⟩ := Option.bind_eq_some_iff.mp (show ((ae_js k1 e).bind _) = some o from q)
    obtain ⟨-, q⟩ := ae_bif q
    cases q
    -- the value is not below 0
    have hx0 : 0 ≤ x := by
      have h3 := h2
      unfold ae_js at h3
      split at h3
      · rename_i h4
        unfold ae_kc at hb
        rw [h4] at hb
        cases hb
      · obtain ⟨a0, h5, h3⟩ := Option.bind_eq_some_iff.mp h3
        obtain ⟨b0, h6, h3⟩ := Option.bind_eq_some_iff.mp h3
        obtain ⟨h7, -⟩ := ae_bif h3
        rw [Bool.and_eq_true] at h7
        have h8 := ae_lo_ok u1.2.2 h5
        rw [d.2] at h8
        have := ae_nn_iff.mp h7.1
        omega
    obtain ⟨j, rfl⟩ := Int.eq_ofNat_of_zero_le hx0
    obtain ⟨i, i1, i2⟩ := ae_js_ok u1.2.2 d.2 h2
    obtain ⟨k2, m2, K2, n2⟩ := ae_eq_ask u1.2.2 d (show (j : Int) = ((a + s' * i : Nat) : Int) by rw [i2])
    have n2 : k2.1 = k1.1 := n2
    refine ⟨(k2, M1), List.mem_flatMap.mpr ⟨i, List.mem_range.mpr i1, List.mem_map.mpr ⟨k2, m2, rfl⟩⟩, ρ1, ⟨by show k.1 ≤ k2.1; rw [n2]; exact u1.1, u1.2.1, K2⟩, K2, ⟨by show 0 < k2.1 ∧ _; rw [n2]; exact g1.2.1.1, g1.2.1.2⟩, by show ae_hp ex k2.1 ρ1 L xs M1 h; rw [n2]; exact g1.2.2.1, by show ae_lr k2.1 ρ1 lv lw; rw [n2]; exact g1.2.2.2.1, by show ae_sr k2.1 ρ1 st sw; rw [n2]; exact g1.2.2.2.2⟩
theorem ae_sx_ok (hr : ae_rok = true) {ex : Bool} {lv : ae_L} {st : List ae_V} {lw : am_L} {sw : List Value} {h : List am_E} : ∀ {ss : List ae_Sp} {ρ : Nat → Int} {k : ae_K} {M : List ae_M} {o : List (ae_K × List ae_M)}, ae_mm ex ρ L xs k M lv st lw sw h → ae_sx ex st ss k M = some o → ∃ z ∈ o, ∃ ρ', ae_up2 ρ k ρ' z.1 ∧ ae_mm ex ρ' L xs z.1 z.2 lv st lw sw h
  | [], ρ, k, M, o, gH, q => by cases q; exact ⟨_, List.mem_singleton.mpr rfl, ρ, ⟨Nat.le_refl _, ae_ag_rf _ _, gH.1⟩, gH⟩
  | s :: r, ρ, k, M, o, gH, q => by
    obtain ⟨o1, h1, q⟩ := Option.bind_eq_some_iff.mp q
    obtain ⟨z, m, ρ1, u1, g1⟩ := ae_s1x_ok hr gH h1
    obtain ⟨x, h2, h3⟩ := ae_cat_ok q m
    obtain ⟨z2, m2, ρ2, u2, g2⟩ := ae_sx_ok hr g1 h2
    exact ⟨z2, h3 z2 m2, ρ2, u1.tr u2, g2⟩
theorem ae_b2_ok (hr : ae_rok = true) (hrc : ae_rec P L xs E nb W0) (ih : ae_main P L xs E nb W0 (ae_b1 P go)) : ae_main P L xs E nb W0 (ae_b2 P go) := by
  intro dd y pc k M lv st cxs outs q ρ d lw sw h T n0 hd hT hn hnb hw gH hcx
  unfold ae_b2 at q
  split at q
  · exact ih dd y pc k M lv st cxs outs q ρ d lw sw h T n0 hd hT hn hnb hw gH hcx
  · obtain ⟨o1, h1, q⟩ := Option.bind_eq_some_iff.mp q
    obtain ⟨z, m, ρ1, u1, g1⟩ := ae_sx_ok hr gH h1
    obtain ⟨x, h2, h3⟩ := ae_cat_ok q m
    have w := ih dd y pc z.1 z.2 lv st cxs x h2 ρ1 d lw sw h T n0 hd (fun o ho => hT o (h3 o ho)) (Nat.le_trans hn u1.1) (Nat.le_trans hnb u1.1) (ae_w0_up hrc hnb u1.2.1 hw) g1 (fun c hc => ae_Cok_up u1.1 u1.2.1 (hcx c hc))
    exact ae_W_ag (fun s hs => u1.2.1 s (Nat.lt_of_lt_of_le hs hn)) w
end AMN

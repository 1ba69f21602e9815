/-! days(n), both: sizes alone -/
noncomputable def dd_0 : ab_Tm := ((((3, [(1, 0, 900), (2, (-2147483648), 2147483647)], [], []), [(219, (8, []), (0, 0, (0, [(1, 1)])), false), (3, (8, []), (0, 0, (0, [(1, 1)])), false)], [], [], [], ([(12, 146, 0, [(0, (2, 1, (0, []))), (1, (0, 0, (0, [(2, 1)])))], [])], none), ([(22, 265, 0, [(0, (2, 219, (0, []))), (1, (0, 0, (0, [(2, 1)])))], [])], none))), [(0, 219, 8), (1, 0, 1)], (1, []))
noncomputable def dd_1 : ab_Tm := ((((2, [(1, 0, 900)], [], []), [(219, (8, []), (0, 0, (0, [(1, 1)])), false), (3, (8, []), (0, 0, (0, [(1, 1)])), false)], [], [], [], ([], some (0, 0, ((-1), []))), ([], some (0, 0, ((-1), []))))), [(0, 219, 8)], (0, []))
noncomputable def dd_2 : ab_Tm := ((((3, [(1, 0, 300), (2, (-1), 30)], [], []), [(219, (8, []), (0, 0, (0, [])), false), (3, (8, []), (0, 0, (0, [])), false)], [], [], [], ([], some (0, 0, (0, [(2, 1)]))), ([(22, 265, 23, [(0, (2, 219, (0, []))), (1, (0, 0, (0, [(1, 1)])))], [])], none))), [(2, 0, 1), (5, 0, 0)], (0, []))
noncomputable def dd_mo : ae_Mo := [(1, 12, 12), (3, 8, 8), (219, 0, 1), (219, 8, 9), (219, 12, 12), (3, 4, 7), (3, 9, 16), (5, 0, 900), (6, 0, 900), (7, 0, 900), (67, 4, 4), (68, 5, 6), (69, 0, 29), (70, 0, 29), (71, 0, 29), (72, 0, 29), (73, 0, 29), (74, 0, 2), (34, 5, 6), (35, 0, 29), (36, 0, 29), (37, 0, 29), (38, 0, 29), (39, 0, 29), (219, 14, 19), (219, 16, 16)]
noncomputable def dd_cts : List ae_Ct := [aec_64, aec_65, aec_276]
theorem dd_ct : ∀ c ∈ dd_cts, ae_CT c := (ae_ctc aet_64 (ae_ctc aet_65 (ae_ctc aet_276 (fun _ q => absurd q List.not_mem_nil))))
noncomputable def dd_c : ae_Ct := (265, [(2, 219, 0, 0)], some (0, (-1), 59), [(219, 0, 0), (219, 10, 19), (219, 25, 25), (224, 109, 380), (224, 1651, 1920)], [], [[]], false, 11)
theorem dd_t : ae_CS 23 [] dd_c := ae_suf_ok ae_rok_ok ae_fok_ok (fuel := 100000) (cts := [aec_357]) (mcs := [aem_20]) (cus := [(265, 42, ([0], [(1, 219, 12, 0, false, 0, 7, 0, 7), (1, 219, 13, 0, false, (-2147483648), 2147483647, (-2147483648), 2147483647), (1, 219, 14, 0, false, 0, 4, 0, 4), (1, 219, 15, 0, false, 0, 900, 0, 900), (1, 219, 16, 0, false, 0, 900, 0, 900), (1, 219, 17, 0, false, (-2147483648), 2147483647, (-2147483648), 2147483647), (1, 219, 18, 0, false, (-2147483648), 2147483647, (-2147483648), 2147483647), (1, 219, 25, 0, false, 0, 30, 0, 30)], [(219, 12, 19), (219, 25, 25), (224, 1651, 1920)], [], 7, true))]) (sps := []) (sfs := []) (by decide +kernel) (ae_ctc aet_357 (fun _ q => absurd q List.not_mem_nil)) (ae_mmc aemt_20 (fun _ q => absurd q List.not_mem_nil)) (fun _ q => absurd q List.not_mem_nil)
noncomputable def dd_mo2 : ae_Mo := dd_mo ++ [(219, 0, 0), (219, 10, 19), (219, 25, 25), (224, 109, 380), (224, 1651, 1920)]
noncomputable def dd_W : ab_W := ((dd_mo, dd_cts, []), dd_mo2, (fun y pc => Nat.beq y 265 && Nat.beq pc 23), (fun _ _ _ => false), (fun _ => none), [dd_0, dd_1, dd_2], (fun _ => some (true, true)), 1)
theorem dd_k : ab_chk dd_W 4000 true true dd_0 = true := af_ck af_h1_ok (by decide +kernel)
section DDA
variable {L : Nat} {xs : Nat → Int32} {r0 : Nat → Int}
noncomputable def dd_Q (L : Nat) (xs : Nat → Int32) (v1 v2 : Option Value) (e1 e2 : List am_E) : Prop := ae_hk false L xs e1 ∧ ae_hk false L xs e2 ∧ aq_ci L xs e1 3 8 = aq_ci L xs e2 219 8 ∧ ∃ x y : Int32, v1 = some (.int x) ∧ v2 = some (.int y)
noncomputable def dd_r (L : Nat) (a b : Int) : Nat → Int
  | 0 => (L : Int)
  | 1 => a
  | _ => b
theorem dd_rest (hL : L ≤ 3072) {G : List am_E → Prop} : ab_ok dd_W G L xs (dd_Q L xs) r0 dd_2 := by
  intro ρ g1 g2 h1 h2 S _ _
  obtain ⟨S1, S2, S4, S5, S6, S7, S8, S9, -⟩ := S
  have l1 := S7.1.1
  have l2 := S8.1.1
  have kM := aq_hk_sat ae_fok_ok S4 (by decide)
  have kA := aq_own_hk false kM S7 l2
  have kB : ae_hk false L xs h2 := aq_own_hk true (by rw [ap_mX_not]; exact kM) S8 l1
  have c1 : aq_ci L xs (am_mX2 ap_b false h1 h2) 3 8 = ae_ev ρ (ae_num 0) := ad_c0 S4.2.1 (by decide)
  have c2 : aq_ci L xs (am_mX2 ap_b false h1 h2) 219 8 = ae_ev ρ (ae_num 0) := ad_c0 S4.2.1 (by decide)
  rw [aq_ciA l1 l2 rfl] at c1
  rw [aq_ciB l1 l2 rfl] at c2
  obtain ⟨f1, v1⟩ := g1
  obtain ⟨f2, v2⟩ := g2
  cases f1 with
  | cons _ _ => exact absurd S5.1 id
  | nil =>
    obtain ⟨w1, e1, x, hx, -⟩ := S5.2 rfl
    have e1 : v1 = some w1 := e1
    subst e1; subst hx
    match f2, S6.1 with
    | [], q => exact absurd q id
    | _ :: _ :: _, q => exact absurd q.2 id
    | [(d, y', pc', lw, sw)], ⟨⟨q1, q2, q3, q4, q5⟩, _⟩ =>
      have q1 : 22 ≤ d := q1
      have q2 : 265 = y' := q2
      have q3 : 23 = pc' := q3
      subst q2; subst q3
      cases sw with
      | cons _ _ => exact absurd q5 id
      | nil =>
        obtain ⟨p, p1, p2⟩ := q4 (0, (2, 219, (0, []))) (by decide)
        have p2 : p = .ref 219 := p2
        subst p2
        obtain ⟨n, r, h', z1, z2, z3, z4, -⟩ := dd_t L xs [.ref 219] lw h2 d hL ⟨rfl, trivial⟩ (fun i v hv => by
          have hv : am_lk [(0, Value.ref 219)] i = some v := hv
          unfold am_lk at hv
          cases hb : Nat.beq 0 i with
          | true =>
            rw [hb] at hv
            have := Nat.eq_of_beq_eq_true hb
            subst this
            cases hv
            exact p1
          | false => rw [hb] at hv; cases hv) kB trivial (by show 11 ≤ d; omega)
        obtain ⟨v, rfl, zi, -⟩ := z4
        obtain ⟨y, rfl, -⟩ : ∃ y : Int32, v = .int y ∧ _ := zi
        have sm : ap_sm L xs true h2 h' := fun p j hs => z3 p j (by
          cases hin : ae_inm dd_c.2.2.2.1 p j with
          | false => rfl
          | true =>
            obtain ⟨t, ht, h3⟩ := List.any_eq_true.mp hin
            have h4 := List.all_eq_true.mp (show dd_c.2.2.2.1.all (fun r => am_sd ap_b true r.1) = true by decide) t ht
            simp only [Bool.and_eq_true] at h3
            rw [Nat.eq_of_beq_eq_true h3.1.1, hs] at h4
            cases h4)
        refine ⟨_, h1, _, h', rfl, ⟨n, z1⟩, ap_sm_rf, sm, fun p j hp => ?_, kA, z2, ?_, x, y, rfl, rfl⟩
        · cases hs : am_sd ap_b false p with
          | true => rw [ap_c (s := false) l1 z2.1.1 hs, ap_c (s := false) l1 l2 hs]
          | false =>
            rw [ap_cx (s := false) l1 z2.1.1 hs, ap_cx (s := false) l1 l2 hs]
            exact z3 p j (ae_sub2_ok (b := dd_mo2) (by decide +kernel) hp)
        · rw [c1, aq_ci_fr z3 (p := 219) (j := 8) (by decide), c2]
theorem dd_all (hL : L ≤ 3072) {hA hB : List am_E} (kA : ae_hk false L xs hA) (kB : ae_hk false L xs hB) {x : Int32} {d : Nat} (hd : 22 ≤ d) (c : aq_ci L xs hA 3 8 = aq_ci L xs hB 219 8) :
    ap_end dd_mo2 L xs (dd_Q L xs) ([(d, 146, 0, lv_args 0 [.ref 1, .int x], [])], none) ([(d, 265, 0, lv_args 0 [.ref 219, .int x], [])], none) hA hB := by
  have kM := aq_mixhk kA kB
  have l1 := kA.1.1
  have l2 := kB.1.1
  obtain ⟨z, z1, z2, z3, z4⟩ := aq_int kA (p := 3) (j := 8) ⟨by decide, by decide, by decide⟩ rfl
  have z3 : (0 : Int) ≤ z.toInt := z3
  have z4 : z.toInt ≤ 900 := z4
  have ev1 : ae_ev (dd_r L z.toInt x.toInt) (0, [(1, 1)]) = z.toInt := by show (0 : Int) + (1 * z.toInt + 0) = z.toInt; omega
  have ev2 : ae_ev (dd_r L z.toInt x.toInt) (0, [(2, 1)]) = x.toInt := by show (0 : Int) + (1 * x.toInt + 0) = x.toInt; omega
  have lv : ∀ p : Nat, ae_lr 3 (dd_r L z.toInt x.toInt) [(0, (2, p, (0, []))), (1, (0, 0, (0, [(2, 1)])))] (lv_args 0 [.ref p, .int x]) := by
    intro p q hq
    simp only [List.mem_cons, List.not_mem_nil, or_false] at hq
    rcases hq with rfl | rfl
    · exact ⟨_, rfl, rfl⟩
    · exact ⟨.int x, rfl, x, rfl, ⟨by decide, trivial⟩, ev2⟩
  refine ab_all (W := dd_W) (G := fun _ => True) (Q := dd_Q L xs) (r0 := dd_r L z.toInt x.toInt) ae_rok_ok ae_fok_ok hL dd_ct (by decide +kernel) (fun _ _ _ _ => trivial) (ad_HOK0 rfl) (ad_cons (Or.inl ⟨4000, true, true, dd_k⟩) (ad_cons (Or.inr ?_) (ad_cons (Or.inr (dd_rest hL)) ad_nil))) dd_0 List.mem_cons_self (dd_r L z.toInt x.toInt) _ _ hA hB ⟨⟨fun q hq => ?_, fun f hf => absurd hf List.not_mem_nil, fun d hd => absurd hd List.not_mem_nil⟩, ⟨⟨by decide, by omega⟩, rfl⟩, ad_hp_new kM (fun m hm => ?_), ⟨⟨⟨by show 12 ≤ d; omega, rfl, rfl, lv 1, trivial⟩, trivial⟩, fun e => by cases e⟩, ⟨⟨⟨by show 22 ≤ d; exact hd, rfl, rfl, lv 219, trivial⟩, trivial⟩, fun e => by cases e⟩, aq_hs_of false kA, aq_hs_of true kB, trivial, ⟨_, fun t ht => absurd ht List.not_mem_nil, ae_fr_rf _ _ _ _, fun m hm => absurd hm List.not_mem_nil⟩⟩ (by decide) (fun _ _ => rfl)
  · exact ad_endT (a := (-1, [])) (b := (-1, [])) ae_fok_ok rfl (by decide) (fun ρ x y e1 e2 _ _ hm d1 d2 k1 k2 _ _ => ⟨k1, k2, by
      rw [← aq_ciA k1.1.1 k2.1.1 (show Nat.blt 3 219 = true from rfl), ← aq_ciB k1.1.1 k2.1.1 (show Nat.blt 219 219 = false from rfl), ad_c0 hm (p := 3) (j := 8) (e := (0, [(1, 1)])) (by decide), ad_c0 hm (p := 219) (j := 8) (e := (0, [(1, 1)])) (by decide)], x, y, rfl, rfl⟩)
  · have hq : q ∈ ([(1, 0, 900), (2, (-2147483648), 2147483647)] : ae_B) := hq
    simp only [List.mem_cons, List.not_mem_nil, or_false] at hq
    rcases hq with rfl | rfl
    · exact ⟨(by decide : 1 < 3), z3, z4⟩
    · exact ⟨(by decide : 2 < 3), fd_i32 x⟩
  · have hm : m ∈ ([(219, (8, []), (0, 0, (0, [(1, 1)])), false), (3, (8, []), (0, 0, (0, [(1, 1)])), false)] : List ae_M) := hm
    simp only [List.mem_cons, List.not_mem_nil, or_false] at hm
    rcases hm with rfl | rfl
    · exact aq_eo kM (j := 8) ⟨by decide, by decide, by decide⟩ rfl rfl rfl rfl (by rw [aq_ciB l1 l2 rfl, ← c, ev1, z2])
    · exact aq_eo kM (j := 8) ⟨by decide, by decide, by decide⟩ rfl rfl rfl rfl (by rw [aq_ciA l1 l2 rfl, ev1, z2])
end DDA


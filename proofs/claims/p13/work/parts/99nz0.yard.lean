/-! yard(n), the class alone: how many steps are told stays so, or there are none -/
noncomputable def yo_t0 : ab_Tm := ((((3, [(1, 0, 30), (2, (-2147483648), 2147483647)], [], []), [(34, (5, []), (0, 0, (0, [(1, 1)])), false)], [], [], [], ([(70, 145, 0, [(0, (2, 1, (0, []))), (1, (0, 0, (0, [(2, 1)])))], [])], none), ([], some (0, 0, (0, []))))), [(1, 0, 1)], (1, []))
noncomputable def yo_e0 : ab_Tm := ((((2, [(1, 0, 30)], [], []), [(34, (5, []), (0, 0, (0, [(1, 1)])), false)], [], [], [], ([], some (0, 0, ((-1), []))), ([], some (0, 0, (0, []))))), [], (0, []))
noncomputable def yo_e1 : ab_Tm := ((((3, [(1, 0, 30), (2, (-2147483648), 2147483647)], [], []), [(34, (5, []), (0, 0, (0, [])), false)], [], [], [], ([], some (0, 0, (0, [(2, 1)]))), ([], some (0, 0, (0, []))))), [(5, 0, 0)], (0, []))
noncomputable def yo_mo : ae_Mo := [(1, 12, 12), (3, 4, 16), (5, 0, 900), (6, 0, 900), (7, 0, 900), (8, 5, 17), (14, 0, 2), (14, 4, 5), (15, 0, 7), (16, 0, 4), (17, 0, 5), (18, 0, 5), (19, 0, 2), (19, 4, 5), (20, 0, 7), (21, 0, 4), (22, 0, 5), (23, 0, 5), (24, 0, 2), (24, 4, 5), (25, 0, 7), (26, 0, 4), (27, 0, 5), (28, 0, 5), (29, 0, 2), (29, 4, 5), (30, 0, 7), (31, 0, 4), (32, 0, 5), (33, 0, 5), (34, 5, 6), (40, 2, 2), (41, 5, 17), (47, 0, 2), (47, 4, 5), (48, 0, 7), (49, 0, 4), (50, 0, 5), (51, 0, 5), (52, 0, 2), (52, 4, 5), (53, 0, 7), (54, 0, 4), (55, 0, 5), (56, 0, 5), (57, 0, 2), (57, 4, 5), (58, 0, 7), (59, 0, 4), (60, 0, 5), (61, 0, 5), (62, 0, 2), (62, 4, 5), (63, 0, 7), (64, 0, 4), (65, 0, 5), (66, 0, 5)]
noncomputable def yo_wt (y pc : Nat) : Bool := false
noncomputable def yo_R1 : List bh_R1 := []
noncomputable def yo_R2 : List bh_R2 := []
noncomputable def yo_l0 : List ab_Tm := [yo_t0]
noncomputable def yo_es : List ab_Tm := [yo_e0, yo_e1]
noncomputable def yo_tms : List ab_Tm := yo_l0 ++ (yo_es)
noncomputable def yo_W : ab_W := ((yo_mo, [aec_49, aec_50, aec_1, aec_2], []), yo_mo, yo_wt, bh_hf yo_R1 yo_R2 yo_wt, bh_hk yo_R1 yo_R2 yo_wt, yo_tms, (fun z => none), 2)
noncomputable def yo_kf (a : Bool) (y pc : Nat) : Bool := bif a then false else false
noncomputable def yo_hq : af_Hq := bh_hq yo_R2 yo_kf yo_wt
theorem yo_k0 : (yo_l0.all (af_chk yo_W yo_hq 4000 true false)) = true := by decide +kernel
theorem yo_hk {L : Nat} {xs : Nat → Int32} (hL : L ≤ 3072) {Q : Option Value → Option Value → List am_E → List am_E → Prop} {r0 : Nat → Int} : bh_ok yo_mo (nt_G L xs r0) L xs Q 2 r0 (bh_hk yo_R1 yo_R2 yo_wt) :=
  (bh_hk_ok bh_nil bh_nil)
theorem yo_all {L : Nat} {xs : Nat → Int32} (hL : L ≤ 3072) {Q : Option Value → Option Value → List am_E → List am_E → Prop} {r0 : Nat → Int} (he : ∀ t ∈ yo_es, ab_ok yo_W (nt_G L xs r0) L xs Q r0 t) : ∀ t ∈ yo_tms, ab_ok yo_W (nt_G L xs r0) L xs Q r0 t :=
  ab_allr ae_rok_ok ae_fok_ok hL (ae_ctc aet_49 (ae_ctc aet_50 (ae_ctc aet_1 (ae_ctc aet_2 (fun _ q => absurd q List.not_mem_nil))))) (by decide +kernel) (fun h h' a b => nt_G_fr (by decide +kernel) a b) (bh_HOK (W := yo_W) (yo_hk hL)) (bh_app (fun t ht => Or.inl ⟨4000, true, false, bh_cks (bh_hq_ok (W := yo_W) (kf := yo_kf) rfl (by decide +kernel)) yo_k0 t ht⟩) (fun t ht => Or.inr (he t ht)))
noncomputable def yo_r (L : Nat) (s : Int) (i : Nat) : Int := match i with
  | 0 => (L : Int)
  | _ => s
noncomputable def yo_Q (L : Nat) (xs : Nat → Int32) (s : Int) (_ : Option Value) (_ : Option Value) (e e2 : List am_E) : Prop := ae_hk false L xs e ∧ ae_hk false L xs e2 ∧ (ab_cv L xs e 34 5 = s ∨ ab_cv L xs e 34 5 = 0)
theorem yo_none {L : Nat} {xs : Nat → Int32} {s : Int} : ab_ok yo_W (nt_G L xs (yo_r L s)) L xs (yo_Q L xs s) (yo_r L s) yo_e1 :=
  ad_endT (a := (0, [(2, 1)])) (b := (0, [])) ae_fok_ok rfl (by decide +kernel) (fun ρ x y e1 e2 sr K hm d1 d2 k1 k2 _ _ => by
    have e0 := cp_eo hm (p := 34) (i := ae_num 5) (x := ae_num 0) (by decide +kernel) (j := 5) rfl
    rw [cp_cv k1 k2 rfl] at e0
    exact ⟨k1, k2, Or.inr (by rw [e0]; rfl)⟩)
theorem yo_same {L : Nat} {xs : Nat → Int32} {s : Int} : ab_ok yo_W (nt_G L xs (yo_r L s)) L xs (yo_Q L xs s) (yo_r L s) yo_e0 :=
  ad_endT (a := ((-1), [])) (b := (0, [])) ae_fok_ok rfl (by decide +kernel) (fun ρ x y e1 e2 sr K hm d1 d2 k1 k2 _ _ => by
    have e0 := cp_eo hm (p := 34) (i := ae_num 5) (x := ae_sym 1) (by decide +kernel) (j := 5) rfl
    rw [cp_cv k1 k2 rfl] at e0
    exact ⟨k1, k2, Or.inl (by rw [e0, cp_sym]; exact sr 1 (by show 1 < 2; decide))⟩)
theorem yo_run {L : Nat} {xs : Nat → Int32} (hL : L ≤ 3072) {hA : List am_E} (kA : ae_hk false L xs hA) {x : Int32} {d n : Nat} {v : Option Value} {e : List am_E} (hd : 70 ≤ d) (hrun : am_go L xs n d 145 0 (lv_args 0 [.ref 1, .int x]) [] hA = some (v, e)) : (ab_cv L xs e 34 5 = ab_cv L xs hA 34 5 ∨ ab_cv L xs e 34 5 = 0) ∧ ∀ p j, Nat.blt p 219 = true → ae_inm yo_mo p j = false → ae_cell L xs e p j = ae_cell L xs hA p j := by
  have kM : ae_hk false L xs (am_mX2 ap_b false hA hA) := by rw [show am_mX2 ap_b false hA hA = hA from am_mix_self ap_b hA]; exact kA
  obtain ⟨xs0, xsa, xsb, xsc, xsd⟩ := cp_int kA (p := 34) (j := 5) ⟨by decide, by decide, by decide⟩ rfl
  have xsc : (0 : Int) ≤ xs0.toInt := xsc
  have xsd : xs0.toInt ≤ 30 := xsd
  generalize hs : ab_cv L xs hA 34 5 = s at xsb
  have rho : ∃ ρ : Nat → Int, (∀ s', s' < 2 → ρ s' = yo_r L s s') ∧ ρ 2 = x.toInt := ⟨fun i => bif Nat.beq i 2 then x.toInt else yo_r L s i, fun s' hs' => by
    show (bif Nat.beq s' 2 then x.toInt else yo_r L s s') = _
    rw [show Nat.beq s' 2 = false from by
      cases h : Nat.beq s' 2 with
      | false => rfl
      | true => have := Nat.eq_of_beq_eq_true h; omega]
    rfl, rfl⟩
  obtain ⟨ρ, ra, rx⟩ := rho
  have start := yo_all hL (Q := yo_Q L xs s) (r0 := (yo_r L s)) (bh_cons (P := fun t => ab_ok yo_W (nt_G L xs (yo_r L s)) L xs (yo_Q L xs s) (yo_r L s) t) yo_same (bh_cons (P := fun t => ab_ok yo_W (nt_G L xs (yo_r L s)) L xs (yo_Q L xs s) (yo_r L s) t) yo_none (bh_nil))) yo_t0 (List.mem_append_left _ List.mem_cons_self) ρ ([(d, 145, 0, lv_args 0 [.ref 1, .int x], [])], none) ([], some (.int 0)) hA hA ⟨⟨fun q hq => ?_, fun f hf => absurd hf List.not_mem_nil, fun d hd => absurd hd List.not_mem_nil⟩, ⟨⟨by decide, by omega⟩, ra 0 (by decide)⟩, ad_hp_new kM (fun m hm => ?_), ⟨⟨⟨by show 70 ≤ d; omega, rfl, rfl, fun p hp => ?_, trivial⟩, trivial⟩, fun e => by cases e⟩, ⟨trivial, fun _ => ⟨.int 0, rfl, 0, rfl, ae_num_dn 0⟩⟩, aq_hs_of false kA, aq_hs_of true kA, trivial, ⟨_, fun t ht => absurd ht List.not_mem_nil, ae_fr_rf _ _ _ _, fun m hm => absurd hm List.not_mem_nil⟩⟩ (by show 2 ≤ 3; decide) (fun s hs => ra s hs)
  · obtain ⟨v1, e1, v2, e2, ⟨n1, g1⟩, -, -, -, fr, X1, X2, X⟩ := start
    have q := am_det g1 hrun
    injection q with q1 q2
    subst q1; subst q2
    refine ⟨X, fun p j hp hi => ?_⟩
    have fr := fr p j hi
    rwa [ap_c (s := false) X1.1.1 X2.1.1 hp, ap_c (s := false) kA.1.1 kA.1.1 hp] at fr
  · have hq : q ∈ ([(1, 0, 30), (2, (-2147483648), 2147483647)] : ae_B) := hq
    simp only [List.mem_cons, List.not_mem_nil, or_false] at hq
    rcases hq with rfl | rfl
    · exact ⟨(by decide : 1 < 3), by rw [ra 1 (by decide)]; show (0 : Int) ≤ s; omega, by rw [ra 1 (by decide)]; show s ≤ 30; omega⟩
    · have := fd_i32 x
      exact ⟨(by decide : 2 < 3), by rw [rx]; show (-2147483648 : Int) ≤ x.toInt; omega, by rw [rx]; show x.toInt ≤ 2147483647; omega⟩
  · rw [List.mem_singleton.mp (show m ∈ ([(34, (5, []), (0, 0, (0, [(1, 1)])), false)] : List ae_M) from hm)]
    rw [show am_mX2 ap_b false hA hA = hA from am_mix_self ap_b hA]
    exact cp_ent kA (j := 5) ⟨by decide, by decide, by decide⟩ rfl (ae_num_dn _) (by decide) (by rw [ra 1 (by decide), hs]; rfl)
  · have hp : p ∈ ([(0, (2, 1, (0, []))), (1, (0, 0, (0, [(2, 1)])))] : ae_L) := hp
    simp only [List.mem_cons, List.not_mem_nil, or_false] at hp
    rcases hp with rfl | rfl
    · exact ⟨.ref 1, rfl, rfl⟩
    · refine ⟨.int x, rfl, x, rfl, ?_⟩
      have d := ae_sym_dn (n := 3) (ρ := ρ) (s := 2) (by decide)
      rw [rx] at d
      exact d
theorem yo_X {L : Nat} {xs : Nat → Int32} (hL : L ≤ 3072) {hA : List am_E} (kA : ae_hk false L xs hA) {x : Int32} {d n : Nat} {v : Option Value} {e : List am_E} (hd : 640 ≤ d) (H : lw_dP L xs hA) (hrun : am_go L xs n d 145 0 (lv_args 0 [.ref 1, .int x]) [] hA = some (v, e)) : lw_dP L xs e := by
  obtain ⟨X, fr⟩ := yo_run hL kA (by omega) hrun
  intro b hb
  have hb' : b ∈ ([(34, 39), (149, 154), (181, 186), (213, 218)] : List (Nat × Nat)) := hb
  simp only [List.mem_cons, List.not_mem_nil, or_false] at hb'
  rcases hb' with rfl | rfl | rfl | rfl
  · rcases X with X | X
    · exact lw_d_eq X (fun j _ => by unfold ab_cv; rw [fr 39 j rfl rfl]) (H _ hb)
    · show lw_dN (ab_cv L xs e 34 5) _ ∧ lw_dD (ab_cv L xs e 34 5) _
      rw [X]
      exact ⟨fun q a _ _ h3 _ => by omega, fun q1 q2 q3 q4 _ _ _ _ h5 _ _ _ => by omega⟩
  · exact lw_d_eq (by unfold ab_cv; rw [fr 149 5 rfl rfl]) (fun j _ => by unfold ab_cv; rw [fr 154 j rfl rfl]) (H _ hb)
  · exact lw_d_eq (by unfold ab_cv; rw [fr 181 5 rfl rfl]) (fun j _ => by unfold ab_cv; rw [fr 186 j rfl rfl]) (H _ hb)
  · exact lw_d_eq (by unfold ab_cv; rw [fr 213 5 rfl rfl]) (fun j _ => by unfold ab_cv; rw [fr 218 j rfl rfl]) (H _ hb)
theorem lw_yardF {L : Nat} {xs : Nat → Int32} (hL : L ≤ 3072) {TT : List ab_Ti} {l1 u1 : Int} {cmp : Bool} (hT1 : ∀ f, ab_RI TT f → ab_RI lw_T0 f) (hc : (TT.all fun t => ab_nw ya_mo2 t || lw_T0.any (ab_qt t)) = true) : lw_PL (lw_I TT L xs) L xs [(0, 0, l1, u1)] 145 261 0 cmp := by
  refine lw_two (mo := ya_mo2) (Q := fun _ v1 v2 e1 e2 => ya_Q L xs v1 v2 e1 e2 ∧ lw_dP L xs e1) hL (fun c hA hB vs d hd hv kA kB I => ?_) (fun hA hB v1 v2 e1 e2 I0 fr q => ?_) (fun hA hB v1 v2 e1 e2 I0 fr q k1 k2 => lw_dP_mix k1 k2 (q 0).2)
  · obtain ⟨a1, t1, rfl, hw1⟩ := lw_avc hv
    obtain rfl := lw_avn hw1
    exact lw_Xand (fun n v e g => yo_X hL kA hd (lw_dP_own kA kB I.2.2.2.2) g) (ya_call hL kA kB (by omega) (lw_szm kA kB I) I.2.2.2.1 (hT1 _ I.2.1))
  · obtain ⟨⟨k1, k2, ri, sz, x, rfl, rfl⟩, -⟩ := q 0
    exact ⟨k1, k2, lw_T_mix hc fr I0.2.1 ri, sz, Or.inr (fun j => ⟨rfl, rfl⟩), _, _, rfl, rfl, ⟨x, rfl⟩, ⟨x, rfl⟩, fun _ => rfl⟩

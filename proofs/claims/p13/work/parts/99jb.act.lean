/-! A call of both, the boys counted ahead -/
noncomputable def akb_k : ae_K := (5, [(1, 0, 4), (2, 0, 4), (3, 0, 4), (4, 0, 4), (0, 0, 3072)], [], [])
noncomputable def akb_z (S : List ae_Ag) : ae_K × List ae_V := (ae_ia S akb_k).getD (akb_k, [])
noncomputable def akb_s (D y1 y2 : Nat) (S : List ae_Ag) (T : List ab_Ti) (rk : ae_X) : ab_Tm := (((akb_z S).1, [], [], [], T, ([(D, y1, 0, ae_ag2 0 ((2, 1, ae_num 0) :: (akb_z S).2), [])], none), ([(D, y2, 0, ae_ag2 0 ((2, 219, ae_num 0) :: (akb_z S).2), [])], none)), [], rk)
noncomputable def bo_ties : List ab_Ti := (224, 0, 13, (0, [(1, 8, 5, 1)]), [], 1) :: (List.range 4).map fun j => (224, 97 + j, 1, (0, [(1, 18 + 5 * j, 1, 1)]), [(-(j : Int), 0, [(1, 8, 8, 0)])], 1)
noncomputable def bo_tin (T : List ab_Ti) : Bool := bo_ties.all fun u => T.any fun t => ab_qt t u
noncomputable def bo_r0 (L : Nat) (xs : Nat → Int32) (h : List am_E) (s : Nat) : Int := match s with
  | 0 => (L : Int)
  | s + 1 => bo_cnt (fun j => aq_ci L xs h (18 + 5 * j) 1) (s : Int) (aq_ci L xs h 8 8).toNat
section AKB
variable {L : Nat} {xs : Nat → Int32}
theorem bo_cv {h : List am_E} (k : ae_hk false L xs h) {p j : Nat} (hp : 0 < p ∧ p ≤ ae_np ∧ j < (ae_sh p).2.2) (hi : (ae_iv p j).1 = 0) : ab_cv L xs h p j = aq_ci L xs h p j := by
  obtain ⟨x, a, b, -⟩ := rs_int k hp hi
  unfold ab_cv
  rw [a]
  exact b
theorem bo_start {h : List am_E} (k : ae_hk false L xs h) {T : List ab_Ti} (q : bo_tin T = true) (R : ab_RI T (ab_cv L xs h)) : bo_G L xs (bo_r0 L xs h) h := by
  have mem : ∀ u ∈ bo_ties, u ∈ T := fun u hu => by
    obtain ⟨t, ht, e⟩ := List.any_eq_true.mp (List.all_eq_true.mp q u hu)
    have e := ab_qt_ok _ _ e
    subst e
    exact ht
  obtain ⟨x, x1, x2, x3, x4⟩ := rs_int k (p := 8) (j := 8) ⟨by decide, by decide, by decide⟩ rfl
  have x3 : 0 ≤ x.toInt := x3
  have x4 : x.toInt ≤ 4 := x4
  have c8 := bo_cv k (p := 8) (j := 8) ⟨by decide, by decide, by decide⟩ rfl
  have c3 := bo_cv k (p := 224) (j := 3) ⟨by decide, by decide, by decide⟩ rfl
  have e3 : aq_ci L xs h 224 3 = aq_ci L xs h 8 8 := by
    rcases R _ (mem _ List.mem_cons_self) 3 (by decide) with ⟨g, hg, -⟩ | e
    · exact absurd hg List.not_mem_nil
    · have e : ab_cv L xs h 224 3 = 0 + (1 * ab_cv L xs h 8 8 + 0) := e
      omega
  have at_ : ∀ j : Nat, j < 4 → (j : Int) < aq_ci L xs h 8 8 → aq_ci L xs h 224 (97 + j) = aq_ci L xs h (18 + 5 * j) 1 := by
    intro j hj hn
    have h1 : ab_cv L xs h 224 (97 + j) = aq_ci L xs h 224 (97 + j) := bo_cv k ⟨by decide, by decide, by show 97 + j < 1925; omega⟩ ((by decide +kernel : ∀ j < 4, (ae_iv 224 (97 + j)).1 = 0) j hj)
    have h2 : ab_cv L xs h (18 + 5 * j) 1 = aq_ci L xs h (18 + 5 * j) 1 := by
      have hp := (by decide +kernel : ∀ i < 4, (ae_iv (18 + 5 * i) 1).1 = 0 ∧ 0 < 18 + 5 * i ∧ 18 + 5 * i ≤ ae_np ∧ 1 < (ae_sh (18 + 5 * i)).2.2) j hj
      exact bo_cv k hp.2 hp.1
    have m : ((224, 97 + j, 1, (0, [(1, 18 + 5 * j, 1, 1)]), [(-(j : Int), 0, [(1, 8, 8, 0)])], 1) : ab_Ti) ∈ bo_ties := List.mem_cons_of_mem _ (List.mem_map.mpr ⟨j, List.mem_range.mpr hj, rfl⟩)
    rcases R _ (mem _ m) 0 (by show 0 < 1; decide) with ⟨g, hg, e⟩ | e
    · have hg : g ∈ ([(-(j : Int), 0, [(1, 8, 8, 0)])] : List ab_Gd) := hg
      rw [List.mem_singleton.mp hg] at e
      have e : -(j : Int) + 0 * ((0 : Nat) : Int) + (1 * ab_cv L xs h 8 8 + 0) ≤ 0 := e
      omega
    · have e : ab_cv L xs h 224 (97 + j + 1 * 0) = 0 + (1 * ab_cv L xs h (18 + 5 * j) (1 + 1 * 0) + 0) := e
      have e : ab_cv L xs h 224 (97 + j) = 0 + (1 * ab_cv L xs h (18 + 5 * j) 1 + 0) := e
      omega
  refine ⟨⟨by omega, by omega⟩, fun s hs => ?_⟩
  have r : bo_r0 L xs h (1 + s) = bo_cnt (fun j => aq_ci L xs h (18 + 5 * j) 1) (s : Int) (aq_ci L xs h 8 8).toNat := by
    rw [Nat.add_comm]
    rfl
  refine ⟨r, r.trans ?_⟩
  rw [e3]
  exact bo_cnt_eq fun j hj => (at_ j (by omega) (by omega)).symm
theorem akb_end {G : List am_E → Prop} {W : ab_W} {r0 : Nat → Int} {T : List ab_Ti} {cmp : Bool} {t : ab_Tm} {k : ae_K} {M : List ae_M} {a b : ae_X} (ht : t.st = (k, M, [], [], T, ([], some (0, 0, a)), ([], some (0, 0, b)))) (hM : (M.all fun m => !m.2.2.2) = true) (hc : cmp = true → a = b) : ab_ok W G L xs (ak_Q T 0 cmp L xs) r0 t :=
  ad_endT (a := a) (b := b) ae_fok_ok ht hM (fun ρ x y e1 e2 _ _ _ d1 d2 k1 k2 _ ri => ⟨k1, k2, ri, _, _, rfl, rfl, ⟨x, rfl⟩, ⟨y, rfl⟩, fun h => by
    have e := hc h
    subst e
    rw [Int32.toInt_inj.mp (d1.symm.trans d2)]⟩)
theorem lw_actb (hL : L ≤ 3072) {G : (Nat → Int) → List am_E → Prop} {T TT : List ab_Ti} {W : ab_W} {S : List ae_Ag} {D y1 y2 kd : Nat} {cmp : Bool} {rk : ae_X} (hz : (ae_ia S akb_k).isSome = true) (hD : Nat.ble D 640 = true) (hW : W.r = 5) (hs : akb_s D y1 y2 S T rk ∈ W.tms) (hb : bo_tin T = true) (hG0 : ∀ h, ae_hk false L xs h → lw_dP L xs h → ab_RI T (ab_cv L xs h) → G (bo_r0 L xs h) h)
    (hok : ∀ r0 : Nat → Int, ∀ t ∈ W.tms, ab_ok W (G r0) L xs (ak_Q T kd cmp L xs) r0 t) (hnb : (W.mo.all fun r => !(Nat.beq r.1 4) && !(Nat.beq r.1 223)) = true) (h3 : ae_inm W.mo 3 8 = false) (h9 : ae_inm W.mo 219 8 = false) 
    (hT1 : ∀ f, ab_RI TT f → ab_RI T f) (hc : (TT.all fun t => ab_nw W.mo t || T.any (ab_qt t)) = true) (hm : lw_Pm W.mo = true) : lw_PL (lw_I TT L xs) L xs S y1 y2 kd cmp := by
  have nb : ∀ p j, p = 4 ∨ p = 223 → ae_inm W.mo p j = false := fun p j hp => by
    cases hin : ae_inm W.mo p j with
    | false => rfl
    | true =>
      obtain ⟨t, ht, h3⟩ := List.any_eq_true.mp hin
      have h4 := List.all_eq_true.mp hnb t ht
      simp only [Bool.and_eq_true] at h3
      rw [Nat.eq_of_beq_eq_true h3.1.1] at h4
      rcases hp with rfl | rfl
      · exact absurd h4 (by decide)
      · exact absurd h4 (by decide)
  refine lw_two (Q := fun _ => ak_Q T kd cmp L xs) (mo := W.mo) hL (fun c hA hB vs d hd hv kA kB I => ?_) (fun hA hB v1 v2 e1 e2 I0 fr q => ?_) (fun hA hB v1 v2 e1 e2 I0 fr _ _ _ => lw_dP_fr hm I0.2.2.2.2 fr)
  · obtain ⟨z, hz'⟩ := Option.isSome_iff_exists.mp hz
    have kM := aq_mixhk kA kB
    have RT := hT1 _ I.2.1
    have G0 := bo_start kM hb RT
    have rg : ∀ s : Nat, s < 4 → 0 ≤ bo_r0 L xs (am_mX2 ap_b false hA hB) (1 + s) ∧ bo_r0 L xs (am_mX2 ap_b false hA hB) (1 + s) ≤ 4 := fun s hs => by
      have e := (G0.2 s hs).1
      have g := bo_rg (fun j => aq_ci L xs (am_mX2 ap_b false hA hB) (18 + 5 * j) 1) (s : Int) (aq_ci L xs (am_mX2 ap_b false hA hB) 8 8).toNat
      have n4 := G0.1.1
      rw [e]
      exact ⟨g.1, by omega⟩
    have K0 : ae_okK (bo_r0 L xs (am_mX2 ap_b false hA hB)) akb_k := by
      refine ⟨fun b hb => ?_, fun f hf => absurd hf List.not_mem_nil, fun d hd => absurd hd List.not_mem_nil⟩
      have hb : b ∈ ([(1, 0, 4), (2, 0, 4), (3, 0, 4), (4, 0, 4), (0, 0, 3072)] : ae_B) := hb
      simp only [List.mem_cons, List.not_mem_nil, or_false] at hb
      rcases hb with rfl | rfl | rfl | rfl | rfl
      · exact ⟨(by decide : 1 < 5), rg 0 (by decide)⟩
      · exact ⟨(by decide : 2 < 5), rg 1 (by decide)⟩
      · exact ⟨(by decide : 3 < 5), rg 2 (by decide)⟩
      · exact ⟨(by decide : 4 < 5), rg 3 (by decide)⟩
      · exact ⟨(by decide : 0 < 5), by show (0 : Int) ≤ (L : Int); omega, by show (L : Int) ≤ 3072; omega⟩
    obtain ⟨ρ, u, sr⟩ := ae_ia_ok K0 hv hz'
    have ez : akb_z S = z := by unfold akb_z; rw [hz']; rfl
    have n1 : 5 ≤ z.1.1 := u.1
    have pr : ∀ s, s < 5 → ρ s = bo_r0 L xs (am_mX2 ap_b false hA hB) s := fun s hs => u.2.1 s (by show s < 5; exact hs)
    have p0 : ρ 0 = (L : Int) := pr 0 (by decide)
    have hd2 := Nat.le_of_ble_eq_true hD
    refine hok (bo_r0 L xs (am_mX2 ap_b false hA hB)) _ hs ρ ([(d, y1, 0, lv_args 0 (.ref 1 :: vs), [])], none) ([(d, y2, 0, lv_args 0 (.ref 219 :: vs), [])], none) hA hB ?_ (by rw [hW]; show 5 ≤ (akb_z S).1.1; rw [ez]; exact n1) (fun s hs => pr s (by rw [hW] at hs; exact hs))
    show ab_sat (G (bo_r0 L xs (am_mX2 ap_b false hA hB))) L xs ρ ((akb_z S).1, [], [], [], T, ([(D, y1, 0, ae_ag2 0 ((2, 1, ae_num 0) :: (akb_z S).2), [])], none), ([(D, y2, 0, ae_ag2 0 ((2, 219, ae_num 0) :: (akb_z S).2), [])], none)) _ _ hA hB
    rw [ez]
    exact ⟨u.2.2, ⟨⟨(show 0 < z.1.1 by omega), by omega⟩, p0⟩, ad_hp_new kM (fun m hm => absurd hm List.not_mem_nil), ⟨⟨⟨by show D ≤ d; omega, rfl, rfl, ae_ag2_ok 0 ⟨rfl, sr⟩, trivial⟩, trivial⟩, fun e => by cases e⟩, ⟨⟨⟨by show D ≤ d; omega, rfl, rfl, ae_ag2_ok 0 ⟨rfl, sr⟩, trivial⟩, trivial⟩, fun e => by cases e⟩, aq_hs_of false kA, aq_hs_of true kB, hG0 _ kM I.2.2.2.2 RT, ⟨_, RT, ae_fr_rf _ _ _ _, fun m hm => absurd hm List.not_mem_nil⟩⟩
  · obtain ⟨k1, k2, ri, w1, w2, rfl, rfl, d1, d2, cm⟩ := q 0
    refine ⟨k1, k2, lw_T_mix hc fr I0.2.1 ri, ?_, Or.inr (fun j => ⟨nb 4 j (Or.inl rfl), nb 223 j (Or.inr rfl)⟩), w1, w2, rfl, rfl, d1, d2, cm⟩
    have a := aq_ci_fr fr h3
    have b := aq_ci_fr fr h9
    have c := I0.2.2.1
    rw [← aq_ciA k1.1.1 k2.1.1 (show Nat.blt 3 219 = true from rfl), ← aq_ciB k1.1.1 k2.1.1 (show Nat.blt 219 219 = false from rfl), a, b, c]
end AKB

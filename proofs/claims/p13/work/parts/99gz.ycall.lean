section YCA
/-- what stays: the tape's length, a, b -/
noncomputable def dd_r (L : Nat) (a b : Int) : Nat → Int
  | 0 => (L : Int)
  | 1 => a
  | _ => b
variable {L : Nat} {xs : Nat → Int32}
/-- yard's start -/
theorem ya_call (hL : L ≤ 3072) {hA hB : List am_E} (kA : ae_hk false L xs hA) (kB : ae_hk false L xs hB) {x : Int32} {d : Nat} (hd : 62 ≤ d) (c : aq_ci L xs hA 3 8 = aq_ci L xs hB 219 8) (mir : ∀ j, j < 900 → ae_cell L xs (am_mX2 ap_b false hA hB) 223 j = ae_cell L xs (am_mX2 ap_b false hA hB) 4 j) (ri0 : ab_RI lw_T0 (ab_cv L xs (am_mX2 ap_b false hA hB))) :
    ap_end ya_mo2 L xs (ya_Q L xs) ([(d, 145, 0, lv_args 0 [.ref 1, .int x], [])], none) ([(d, 261, 0, lv_args 0 [.ref 219, .int x], [])], none) hA hB := by
  have kM := aq_mixhk kA kB
  have l1 := kA.1.1
  have l2 := kB.1.1
  obtain ⟨z, z1, z2, z3, z4⟩ := aq_int kA (p := 3) (j := 8) ⟨by decide, by decide, by decide⟩ rfl
  have z3 : (0 : Int) ≤ z.toInt := z3
  have z4 : z.toInt ≤ 900 := z4
  have ev1 : ae_ev (dd_r L z.toInt x.toInt) (0, [(1, 1)]) = z.toInt := by show (0 : Int) + (1 * z.toInt + 0) = z.toInt; omega
  have ev2 : ae_ev (dd_r L z.toInt x.toInt) (0, [(2, 1)]) = x.toInt := by show (0 : Int) + (1 * x.toInt + 0) = x.toInt; omega
  have lv : ∀ p : Nat, ae_lr 3 (dd_r L z.toInt x.toInt) [(0, (2, p, (0, []))), (1, (0, 0, (0, [(2, 1)])))] (lv_args 0 [.ref p, .int x]) := by
    intro p q hq
    simp only [List.mem_cons, List.not_mem_nil, or_false] at hq
    rcases hq with rfl | rfl
    · exact ⟨_, rfl, rfl⟩
    · exact ⟨.int x, rfl, x, rfl, ⟨by decide, trivial⟩, ev2⟩
  refine ab_all (W := ya_W) (G := ya_G L xs) (Q := ya_Q L xs) (r0 := dd_r L z.toInt x.toInt) ae_rok_ok ae_fok_ok hL (fun c h => absurd h List.not_mem_nil) (by decide +kernel) (fun h h' q f j hj => (f 223 j rfl).trans ((q j hj).trans (f 4 j rfl).symm)) (ad_HOK0 rfl) (ad_cons (Or.inl ⟨4000, true, true, ya_0_ok⟩) (ad_cons (Or.inr (ya_mid hL)) (ad_cons (Or.inr ?_) ad_nil))) ya_0 List.mem_cons_self (dd_r L z.toInt x.toInt) _ _ hA hB ⟨⟨fun q hq => ?_, fun f hf => absurd hf List.not_mem_nil, fun d hd => absurd hd List.not_mem_nil⟩, ⟨⟨by decide, by omega⟩, rfl⟩, ad_hp_new kM (fun m hm => ?_), ⟨⟨⟨by show 62 ≤ d; exact hd, rfl, rfl, lv 1, trivial⟩, trivial⟩, fun e => by cases e⟩, ⟨⟨⟨by show 62 ≤ d; exact hd, rfl, rfl, lv 219, trivial⟩, trivial⟩, fun e => by cases e⟩, aq_hs_of false kA, aq_hs_of true kB, mir, ⟨_, ri0, ae_fr_rf _ _ _ _, fun m hm => absurd hm List.not_mem_nil⟩⟩ (by decide) (fun _ _ => rfl)
  · exact ad_endT (a := (-1, [])) (b := (-1, [])) ae_fok_ok rfl (by decide) (fun ρ x y e1 e2 _ _ hm d1 d2 k1 k2 _ ri => ⟨k1, k2, ri, by
      rw [← aq_ciA k1.1.1 k2.1.1 (show Nat.blt 3 219 = true from rfl), ← aq_ciB k1.1.1 k2.1.1 (show Nat.blt 219 219 = false from rfl), ad_c0 hm (p := 3) (j := 8) (e := (0, [(1, 1)])) (by decide), ad_c0 hm (p := 219) (j := 8) (e := (0, [(1, 1)])) (by decide)], x, rfl, by rw [Int32.toInt_inj.mp (d1.symm.trans d2)]⟩)
  · have hq : q ∈ ([(1, 0, 900), (2, (-2147483648), 2147483647)] : ae_B) := hq
    simp only [List.mem_cons, List.not_mem_nil, or_false] at hq
    rcases hq with rfl | rfl
    · exact ⟨(by decide : 1 < 3), z3, z4⟩
    · exact ⟨(by decide : 2 < 3), fd_i32 x⟩
  · have hm : m ∈ ([(219, (8, []), (0, 0, (0, [(1, 1)])), false), (3, (8, []), (0, 0, (0, [(1, 1)])), false)] : List ae_M) := hm
    simp only [List.mem_cons, List.not_mem_nil, or_false] at hm
    rcases hm with rfl | rfl
    · exact aq_eo kM (j := 8) ⟨by decide, by decide, by decide⟩ rfl rfl rfl rfl (by rw [aq_ciB l1 l2 rfl, ← c, ev1, z2])
    · exact aq_eo kM (j := 8) ⟨by decide, by decide, by decide⟩ rfl rfl rfl rfl (by rw [aq_ciA l1 l2 rfl, ev1, z2])
end YCA

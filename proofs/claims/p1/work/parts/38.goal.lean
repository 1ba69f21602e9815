def rm_Good (xs : Nat → Int32) (lv' : am_L) (h' : List am_E) (t : Nat) : Prop := ∃ (m : Nat) (h2 : List am_E), am_go 6 xs m 300 am_law t lv' [] h' = some (some (.int 1), h2) ∧ h2.length ≤ 600000 ∧ am_sl h2 ≤ 7302249
theorem rm_in23 {xs : Nat → Int32} {l0 l1 w0 w1 : Nat} (h1 : l0 ≤ rm_key (xs 2)) (h2 : rm_key (xs 2) ≤ l1) (h3 : w0 ≤ rm_key (xs 3)) (h4 : rm_key (xs 3) ≤ w1) : rm_in xs [(0, 4294967295), (0, 4294967295), (l0, l1), (w0, w1), (0, 4294967295), (0, 4294967295)] := by
  intro k q hk
  have hf := rm_full_in xs k
  match k, hk, hf with
  | 0, hk, hf => exact hf q hk
  | 1, hk, hf => exact hf q hk
  | 2, hk, _ => cases hk; exact ⟨h1, h2⟩
  | 3, hk, _ => cases hk; exact ⟨h3, h4⟩
  | 4, hk, hf => exact hf q hk
  | 5, hk, hf => exact hf q hk
  | k + 6, hk, _ => cases hk
theorem rm_g1187 {xs : Nat → Int32} {lv' : am_L} {h' : List am_E} (hl : rm_lvr xs rm_lv0 lv') (hh : rm_hp xs rm_h0 h') : rm_Good xs lv' h' 1187 := by
  have b2 := rm_key_bd (xs 2)
  have b3 := rm_key_bd (xs 3)
  rcases (show rm_key (xs 3) ≤ 2147483647 ∨ rm_key (xs 3) = 2147483648 ∨ rm_key (xs 3) = 2147483649 ∨ rm_key (xs 3) = 2147483650 ∨ 2147483651 ≤ rm_key (xs 3) by omega) with w | w | w | w | w <;>
    rcases (show rm_key (xs 2) ≤ 2147483647 ∨ rm_key (xs 2) = 2147483648 ∨ 2147483649 ≤ rm_key (xs 2) by omega) with u | u | u
  · exact rm_chk_ok rm_t1187_0_0 (rm_in23 (by omega) (by omega) (by omega) (by omega)) hl hh
  · exact rm_chk_ok rm_t1187_0_1 (rm_in23 (by omega) (by omega) (by omega) (by omega)) hl hh
  · exact rm_chk_ok rm_t1187_0_2 (rm_in23 (by omega) (by omega) (by omega) (by omega)) hl hh
  · exact rm_chk_ok rm_t1187_1_0 (rm_in23 (by omega) (by omega) (by omega) (by omega)) hl hh
  · exact rm_chk_ok rm_t1187_1_1 (rm_in23 (by omega) (by omega) (by omega) (by omega)) hl hh
  · exact rm_chk_ok rm_t1187_1_2 (rm_in23 (by omega) (by omega) (by omega) (by omega)) hl hh
  · exact rm_chk_ok rm_t1187_2_0 (rm_in23 (by omega) (by omega) (by omega) (by omega)) hl hh
  · exact rm_chk_ok rm_t1187_2_1 (rm_in23 (by omega) (by omega) (by omega) (by omega)) hl hh
  · exact rm_chk_ok rm_t1187_2_2 (rm_in23 (by omega) (by omega) (by omega) (by omega)) hl hh
  · exact rm_chk_ok rm_t1187_3_0 (rm_in23 (by omega) (by omega) (by omega) (by omega)) hl hh
  · exact rm_chk_ok rm_t1187_3_1 (rm_in23 (by omega) (by omega) (by omega) (by omega)) hl hh
  · exact rm_chk_ok rm_t1187_3_2 (rm_in23 (by omega) (by omega) (by omega) (by omega)) hl hh
  · exact rm_chk_ok rm_t1187_4_0 (rm_in23 (by omega) (by omega) (by omega) (by omega)) hl hh
  · exact rm_chk_ok rm_t1187_4_1 (rm_in23 (by omega) (by omega) (by omega) (by omega)) hl hh
  · exact rm_chk_ok rm_t1187_4_2 (rm_in23 (by omega) (by omega) (by omega) (by omega)) hl hh
theorem rm_tgs_ok {xs : Nat → Int32} {lv' : am_L} {h' : List am_E} (hl : rm_lvr xs rm_lv0 lv') (hh : rm_hp xs rm_h0 h') : ∀ t ∈ rm_tg, rm_Good xs lv' h' t :=
  fm_c (rm_chk_ok rm_t268 (rm_full_in xs) hl hh) <|
  fm_c (rm_chk_ok rm_t281 (rm_full_in xs) hl hh) <|
  fm_c (rm_chk_ok rm_t295 (rm_full_in xs) hl hh) <|
  fm_c (rm_chk_ok rm_t309 (rm_full_in xs) hl hh) <|
  fm_c (rm_chk_ok rm_t352 (rm_full_in xs) hl hh) <|
  fm_c (rm_chk_ok rm_t425 (rm_full_in xs) hl hh) <|
  fm_c (rm_chk_ok rm_t459 (rm_full_in xs) hl hh) <|
  fm_c (rm_chk_ok rm_t522 (rm_full_in xs) hl hh) <|
  fm_c (rm_chk_ok rm_t585 (rm_full_in xs) hl hh) <|
  fm_c (rm_chk_ok rm_t608 (rm_full_in xs) hl hh) <|
  fm_c (rm_chk_ok rm_t631 (rm_full_in xs) hl hh) <|
  fm_c (rm_chk_ok rm_t654 (rm_full_in xs) hl hh) <|
  fm_c (rm_chk_ok rm_t677 (rm_full_in xs) hl hh) <|
  fm_c (rm_chk_ok rm_t710 (rm_full_in xs) hl hh) <|
  fm_c (rm_chk_ok rm_t743 (rm_full_in xs) hl hh) <|
  fm_c (rm_chk_ok rm_t776 (rm_full_in xs) hl hh) <|
  fm_c (rm_chk_ok rm_t809 (rm_full_in xs) hl hh) <|
  fm_c (rm_chk_ok rm_t842 (rm_full_in xs) hl hh) <|
  fm_c (rm_chk_ok rm_t855 (rm_full_in xs) hl hh) <|
  fm_c (rm_chk_ok rm_t868 (rm_full_in xs) hl hh) <|
  fm_c (rm_chk_ok rm_t881 (rm_full_in xs) hl hh) <|
  fm_c (rm_chk_ok rm_t914 (rm_full_in xs) hl hh) <|
  fm_c (rm_chk_ok rm_t937 (rm_full_in xs) hl hh) <|
  fm_c (rm_chk_ok rm_t950 (rm_full_in xs) hl hh) <|
  fm_c (rm_chk_ok rm_t973 (rm_full_in xs) hl hh) <|
  fm_c (rm_chk_ok rm_t996 (rm_full_in xs) hl hh) <|
  fm_c (rm_chk_ok rm_t1019 (rm_full_in xs) hl hh) <|
  fm_c (rm_chk_ok rm_t1052 (rm_full_in xs) hl hh) <|
  fm_c (rm_chk_ok rm_t1085 (rm_full_in xs) hl hh) <|
  fm_c (rm_chk_ok rm_t1118 (rm_full_in xs) hl hh) <|
  fm_c (rm_chk_ok rm_t1131 (rm_full_in xs) hl hh) <|
  fm_c (rm_chk_ok rm_t1154 (rm_full_in xs) hl hh) <|
  fm_c (rm_g1187 hl hh) <|
  fm_c (rm_chk_ok rm_t1246 (rm_full_in xs) hl hh) <|
  fm_c (rm_chk_ok rm_t1289 (rm_full_in xs) hl hh) <|
  fm_c (rm_chk_ok rm_t1322 (rm_full_in xs) hl hh) <|
  fm_c (rm_chk_ok rm_t1335 (rm_full_in xs) hl hh) <|
  fm_c (rm_chk_ok rm_t1368 (rm_full_in xs) hl hh) <|
  fm_c (rm_chk_ok rm_t1391 (rm_full_in xs) hl hh) <|
  fm_c (rm_chk_ok rm_t1414 (rm_full_in xs) hl hh) <|
  fm_c (rm_chk_ok rm_t1437 (rm_full_in xs) hl hh) <|
  fm_c (rm_chk_ok rm_t1460 (rm_full_in xs) hl hh) <|
  fm_c (rm_chk_ok rm_t1493 (rm_full_in xs) hl hh) <|
  fm_c (rm_chk_ok rm_t1506 (rm_full_in xs) hl hh) <|
  fm_c (rm_chk_ok rm_t1519 (rm_full_in xs) hl hh) <|
  fm_c (rm_chk_ok rm_t1552 (rm_full_in xs) hl hh) <|
  fm_c (rm_chk_ok rm_t1585 (rm_full_in xs) hl hh) <|
  fm_c (rm_chk_ok rm_t1619 (rm_full_in xs) hl hh) <|
  fm_c (rm_chk_ok rm_t1642 (rm_full_in xs) hl hh) <|
  fm_c (rm_chk_ok rm_t1665 (rm_full_in xs) hl hh) <|
  fm_c (rm_chk_ok rm_t1718 (rm_full_in xs) hl hh) <|
  fm_c (rm_chk_ok rm_t1741 (rm_full_in xs) hl hh) <|
  fm_c (rm_chk_ok rm_t1764 (rm_full_in xs) hl hh) <|
  fm_c (rm_chk_ok rm_t1797 (rm_full_in xs) hl hh) <|
  fm_c (rm_chk_ok rm_t1810 (rm_full_in xs) hl hh) <|
  fm_c (rm_chk_ok rm_t1823 (rm_full_in xs) hl hh) <|
  fm_n
theorem am_goal6 (xs : Nat → Int32) : ∃ (n : Nat) (h' : List am_E), am_go 6 xs n 300 am_law 0 [(0, .ref 0)] [] [] = some (some (.int 1), h') ∧ h'.length ≤ 600000 ∧ am_sl h' ≤ 7302249 := by
  have hi := rm_init
  split at hi
  · rename_i outs ho
    obtain ⟨o, o1, o2, o3⟩ := rm_go_ok (xs := xs) 5000 300 am_law 0 rm_full [(0, (5, 0, 0))] [] [] outs [(0, .ref 0)] [] [] ho (rm_full_in xs) ⟨rfl, rfl, trivial⟩ trivial trivial
    have h1 := List.all_eq_true.mp hi o o1
    obtain ⟨ob, oo⟩ := o
    unfold rm_okI at h1
    rw [Bool.and_eq_true] at h1
    cases oo with
    | inl q => cases h1.2
    | inr q =>
      have h2 := h1.2
      simp only [Bool.and_eq_true] at h2
      obtain ⟨⟨⟨k1, k2⟩, k3⟩, k4⟩ := h2
      have k1 : q.1 ∈ rm_tg := by simpa using k1
      have k2 := of_decide_eq_true k2
      have k4 := rm_eqH_ok k4
      obtain ⟨lv2, st2, h2, g1, g2, g3, g4⟩ := o3
      rw [k2] at g1
      rw [k4] at g3
      have k5 : q.2.2.1 = [] := List.isEmpty_iff.mp k3
      rw [k5] at g2
      cases st2 with
      | cons v t => exact absurd g2 id
      | nil =>
        obtain ⟨m, h3, e1, e2, e3⟩ := rm_tgs_ok g1 g3 q.1 k1
        exact ⟨m + 5000, h3, g4 m _ e1, e2, e3⟩
  · cases hi
theorem am_goal {L : Nat} (xs : Nat → Int32) (hL : L ≤ 6) : ∃ (n : Nat) (h' : List am_E), am_go L xs n 300 am_law 0 [(0, .ref 0)] [] [] = some (some (.int 1), h') ∧ h'.length ≤ 600000 ∧ am_sl h' ≤ 7302249 := by
  match L, hL with
  | 0, _ => exact rm_chk_ok rm_L0 (rm_full_in xs) ⟨rfl, rfl, trivial⟩ trivial
  | 1, _ => exact rm_chk_ok rm_L1 (rm_full_in xs) ⟨rfl, rfl, trivial⟩ trivial
  | 2, _ => exact rm_chk_ok rm_L2 (rm_full_in xs) ⟨rfl, rfl, trivial⟩ trivial
  | 3, _ => exact rm_chk_ok rm_L3 (rm_full_in xs) ⟨rfl, rfl, trivial⟩ trivial
  | 4, _ => exact rm_chk_ok rm_L4 (rm_full_in xs) ⟨rfl, rfl, trivial⟩ trivial
  | 5, _ => exact rm_chk_ok rm_L5 (rm_full_in xs) ⟨rfl, rfl, trivial⟩ trivial
  | 6, _ => exact am_goal6 xs
  | n + 7, h => exact absurd h (by omega)

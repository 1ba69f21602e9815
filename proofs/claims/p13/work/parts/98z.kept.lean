/-! isKept, call by call -/
section ACK
variable {L : Nat} {xs : Nat → Int32} {n d y pc a b : Nat} {lw : am_L} {sw : List Value} {h : List am_E} {r : Option Value × List am_E}
theorem ag_ne1 {o : Int} {v : Int32} (hc : am_code y pc = some (.ifCond .ne o, a, b)) (hv : v ≠ 0) (hg : am_go L xs n d y a lw sw h = some r) : am_go L xs (n + 1) d y pc lw (.int v :: sw) h = some r :=
  am_st1 (z := (a, lw, sw, none)) hc rfl rfl (by show some (bif am_cm1 .ne v then a else pc + 3, lw, sw, none) = _; rw [show am_cm1 .ne v = true from decide_eq_true hv]; rfl) rfl hg
theorem ag_ne0 {o : Int} {v : Int32} (hc : am_code y pc = some (.ifCond .ne o, a, b)) (hv : v = 0) (hg : am_go L xs n d y (pc + 3) lw sw h = some r) : am_go L xs (n + 1) d y pc lw (.int v :: sw) h = some r :=
  am_st1 (z := (pc + 3, lw, sw, none)) hc rfl rfl (by show some (bif am_cm1 .ne v then a else pc + 3, lw, sw, none) = _; rw [show am_cm1 .ne v = false from decide_eq_false (fun q => q hv)]; rfl) rfl hg
theorem ag_cge1 {o : Int} {v : Int32} (hc : am_code y pc = some (.ifCond .ge o, a, b)) (hv : 0 ≤ v.toInt) (hg : am_go L xs n d y a lw sw h = some r) : am_go L xs (n + 1) d y pc lw (.int v :: sw) h = some r :=
  am_st1 (z := (a, lw, sw, none)) hc rfl rfl (by show some (bif am_cm1 .ge v then a else pc + 3, lw, sw, none) = _; rw [show am_cm1 .ge v = true from decide_eq_true (Int32.le_iff_toInt_le.mpr hv)]; rfl) rfl hg
theorem ag_cge0 {o : Int} {v : Int32} (hc : am_code y pc = some (.ifCond .ge o, a, b)) (hv : v.toInt < 0) (hg : am_go L xs n d y (pc + 3) lw sw h = some r) : am_go L xs (n + 1) d y pc lw (.int v :: sw) h = some r :=
  am_st1 (z := (pc + 3, lw, sw, none)) hc rfl rfl (by show some (bif am_cm1 .ge v then a else pc + 3, lw, sw, none) = _; rw [show am_cm1 .ge v = false from decide_eq_false (fun q => by have h : (0 : Int32).toInt ≤ v.toInt := Int32.le_iff_toInt_le.mp q; rw [show (0 : Int32).toInt = 0 from rfl] at h; omega)]; rfl) rfl hg
end ACK
/-- from a place in isKept the answer is this -/
noncomputable def ac_KP (pc : Nat) (F : Int → Int → Int) : Prop := ∀ (L : Nat) (xs : Nat → Int32) (h : List am_E) (d : Nat) (lw : am_L) (tk W : Int), L ≤ 3072 → ac_tw L xs h tk W → 11 ≤ d → am_lk lw 0 = some (.ref 219) → ∃ n r e, am_go L xs n d 241 pc lw [] h = some (some (.int r), e) ∧ ap_sm L xs true h e ∧ ae_fr [] L xs h e ∧ ac_tw L xs e tk W ∧ r.toInt = F tk W
theorem ac_kp0 : ac_KP 125 (fun _ _ => 0) := fun L xs h d lw tk W _ q _ _ => ⟨2, 0, h, ag_ic (m := 0) (a := 0) (b := 0) rfl rfl (am_st0 (i := .ireturn) (a := 0) (b := 0) rfl rfl rfl), ap_sm_rf, ae_fr_rf _ _ _ _, q, rfl⟩
theorem ac_kp1 : ac_KP 77 (fun _ _ => 1) := fun L xs h d lw tk W _ q _ _ => ⟨2, 1, h, ag_ic (m := 1) (a := 0) (b := 0) rfl rfl (am_st0 (i := .ireturn) (a := 0) (b := 0) rfl rfl rfl), ap_sm_rf, ae_fr_rf _ _ _ _, q, rfl⟩
theorem ac_kp2 : ac_KP 121 (fun _ _ => 1) := fun L xs h d lw tk W _ q _ _ => ⟨3, 1, h, ag_ic (m := 1) (a := 0) (b := 0) rfl rfl (ag_go (o := 4) (a := 126) (b := 0) rfl (am_st0 (i := .ireturn) (a := 0) (b := 0) rfl rfl rfl)), ap_sm_rf, ae_fr_rf _ _ _ _, q, rfl⟩
theorem ac_kps {pc y p1 p2 : Nat} {A : Int32 → Prop} [∀ v, Decidable (A v)] {F F1 F2 : Int → Int → Int} {B : Int → Prop} [∀ v, Decidable (B v)] (m : ac_WM 10 y F) (hAB : ∀ v : Int32, A v ↔ B v.toInt) (k1 : ac_KP p1 F1) (k2 : ac_KP p2 F2)
    (hca : am_code 241 pc = some (.aload_n 0, 0, 0)) (hcc : ∃ w, am_code 241 (pc + 1) = some (.invokevirtual w, y, 0)) (hA : Nat.ble 1000 y = false) (hown : (am_inf y).1 = 12) (hnl : Nat.ble 1 (am_inf y).2.2.1 = true)
    (j1 : ∀ {L : Nat} {xs : Nat → Int32} {n d : Nat} {lw : am_L} {h : List am_E} {r : Option Value × List am_E} {v : Int32}, A v → am_go L xs n d 241 p1 lw [] h = some r → am_go L xs (n + 1) d 241 (pc + 4) lw [.int v] h = some r)
    (j2 : ∀ {L : Nat} {xs : Nat → Int32} {n d : Nat} {lw : am_L} {h : List am_E} {r : Option Value × List am_E} {v : Int32}, ¬ A v → am_go L xs n d 241 p2 lw [] h = some r → am_go L xs (n + 1) d 241 (pc + 4) lw [.int v] h = some r) :
    ac_KP pc (fun tk W => if B (F tk W) then F1 tk W else F2 tk W) := by
  intro L xs h d lw tk W hL q hd l0
  obtain ⟨d, rfl⟩ : ∃ d', d = d' + 1 := ⟨d - 1, by omega⟩
  obtain ⟨n1, r1, e1, g1, g2, g3, g4, g5⟩ := m L xs h d (lv_args 0 [.ref 219]) tk W hL q (by omega) rfl
  obtain ⟨w, hcc⟩ := hcc
  have ho : ae_isO 219 (am_inf y).1 0 = true := by rw [hown]; decide
  by_cases hB : A r1
  · obtain ⟨n2, r2, e2, f1, f2, f3, f4, f5⟩ := k1 L xs e1 (d + 1) lw tk W hL g4 hd l0
    refine ⟨_, r2, e2, ag_al (m := 0) (p := 219) hca l0 (ag_cv hcc hA q.1.1 ho (by decide) hnl g1 (j1 hB f1)), ap_sm_tr g2 f2, ae_fr_tr g3 f3, f4, ?_⟩
    show r2.toInt = if B (F tk W) then F1 tk W else F2 tk W
    rw [← g5, if_pos ((hAB r1).mp hB)]
    exact f5
  · obtain ⟨n2, r2, e2, f1, f2, f3, f4, f5⟩ := k2 L xs e1 (d + 1) lw tk W hL g4 hd l0
    refine ⟨_, r2, e2, ag_al (m := 0) (p := 219) hca l0 (ag_cv hcc hA q.1.1 ho (by decide) hnl g1 (j2 hB f1)), ap_sm_tr g2 f2, ae_fr_tr g3 f3, f4, ?_⟩
    show r2.toInt = if B (F tk W) then F1 tk W else F2 tk W
    rw [← g5, if_neg (fun h => hB ((hAB r1).mpr h))]
    exact f5
theorem ac_z32 {v : Int32} : v = 0 ↔ v.toInt = 0 := ⟨fun h => by rw [h]; rfl, fun h => Int32.toInt_inj.mp (by rw [h]; rfl)⟩
noncomputable def ac_kf114 : Int → Int → Int := fun tk W => if (fun v => v = 0) (ac_F ac_l240 0 tk W) then (fun _ _ => (0 : Int)) tk W else (fun _ _ => (1 : Int)) tk W
theorem ac_ks114 : ac_KP 114 ac_kf114 := ac_kps (A := (fun v => v = 0)) (B := (fun v => v = 0)) ac_m240 (fun v => ac_z32) ac_kp0 ac_kp2 rfl ⟨_, rfl⟩ rfl rfl (by decide) (fun hv hg => ag_eq1 (o := 7) (a := 125) (b := 0) rfl hv hg) (fun hv hg => ag_eq0 (o := 7) (a := 125) (b := 0) rfl hv hg)
noncomputable def ac_kf107 : Int → Int → Int := fun tk W => if (fun v => 0 ≤ v) (ac_F ac_l239 (-1) tk W) then (fun _ _ => (1 : Int)) tk W else ac_kf114 tk W
theorem ac_ks107 : ac_KP 107 ac_kf107 := ac_kps (A := (fun v => 0 ≤ v.toInt)) (B := (fun v => 0 ≤ v)) ac_m239 (fun v => Iff.rfl) ac_kp2 ac_ks114 rfl ⟨_, rfl⟩ rfl rfl (by decide) (fun hv hg => ag_cge1 (o := 10) (a := 121) (b := 0) rfl hv hg) (fun hv hg => ag_cge0 (o := 10) (a := 121) (b := 0) rfl (Int.not_le.mp hv) hg)
noncomputable def ac_kf100 : Int → Int → Int := fun tk W => if (fun v => 0 ≤ v) (ac_F ac_l238 (-1) tk W) then (fun _ _ => (1 : Int)) tk W else ac_kf107 tk W
theorem ac_ks100 : ac_KP 100 ac_kf100 := ac_kps (A := (fun v => 0 ≤ v.toInt)) (B := (fun v => 0 ≤ v)) ac_m238 (fun v => Iff.rfl) ac_kp2 ac_ks107 rfl ⟨_, rfl⟩ rfl rfl (by decide) (fun hv hg => ag_cge1 (o := 17) (a := 121) (b := 0) rfl hv hg) (fun hv hg => ag_cge0 (o := 17) (a := 121) (b := 0) rfl (Int.not_le.mp hv) hg)
noncomputable def ac_kf93 : Int → Int → Int := fun tk W => if (fun v => 0 ≤ v) (ac_F ac_l237 (-1) tk W) then (fun _ _ => (1 : Int)) tk W else ac_kf100 tk W
theorem ac_ks93 : ac_KP 93 ac_kf93 := ac_kps (A := (fun v => 0 ≤ v.toInt)) (B := (fun v => 0 ≤ v)) ac_m237 (fun v => Iff.rfl) ac_kp2 ac_ks100 rfl ⟨_, rfl⟩ rfl rfl (by decide) (fun hv hg => ag_cge1 (o := 24) (a := 121) (b := 0) rfl hv hg) (fun hv hg => ag_cge0 (o := 24) (a := 121) (b := 0) rfl (Int.not_le.mp hv) hg)
noncomputable def ac_kf86 : Int → Int → Int := fun tk W => if (fun v => ¬ v = 0) (ac_F ac_l236 0 tk W) then (fun _ _ => (1 : Int)) tk W else ac_kf93 tk W
theorem ac_ks86 : ac_KP 86 ac_kf86 := ac_kps (A := (fun v => ¬ v = 0)) (B := (fun v => ¬ v = 0)) ac_m236 (fun v => not_congr ac_z32) ac_kp2 ac_ks93 rfl ⟨_, rfl⟩ rfl rfl (by decide) (fun hv hg => ag_ne1 (o := 31) (a := 121) (b := 0) rfl hv hg) (fun hv hg => ag_ne0 (o := 31) (a := 121) (b := 0) rfl (Classical.not_not.mp hv) hg)
noncomputable def ac_kf79 : Int → Int → Int := fun tk W => if (fun v => ¬ v = 0) (ac_F ac_l235 0 tk W) then (fun _ _ => (1 : Int)) tk W else ac_kf86 tk W
theorem ac_ks79 : ac_KP 79 ac_kf79 := ac_kps (A := (fun v => ¬ v = 0)) (B := (fun v => ¬ v = 0)) ac_m235 (fun v => not_congr ac_z32) ac_kp2 ac_ks86 rfl ⟨_, rfl⟩ rfl rfl (by decide) (fun hv hg => ag_ne1 (o := 38) (a := 121) (b := 0) rfl hv hg) (fun hv hg => ag_ne0 (o := 38) (a := 121) (b := 0) rfl (Classical.not_not.mp hv) hg)
noncomputable def ac_kf70 : Int → Int → Int := fun tk W => if (fun v => v = 0) (ac_F ac_l234 0 tk W) then ac_kf79 tk W else (fun _ _ => (1 : Int)) tk W
theorem ac_ks70 : ac_KP 70 ac_kf70 := ac_kps (A := (fun v => v = 0)) (B := (fun v => v = 0)) ac_m234 (fun v => ac_z32) ac_ks79 ac_kp1 rfl ⟨_, rfl⟩ rfl rfl (by decide) (fun hv hg => ag_eq1 (o := 5) (a := 79) (b := 0) rfl hv hg) (fun hv hg => ag_eq0 (o := 5) (a := 79) (b := 0) rfl hv hg)
noncomputable def ac_kf63 : Int → Int → Int := fun tk W => if (fun v => ¬ v = 0) (ac_F ac_l233 0 tk W) then (fun _ _ => (1 : Int)) tk W else ac_kf70 tk W
theorem ac_ks63 : ac_KP 63 ac_kf63 := ac_kps (A := (fun v => ¬ v = 0)) (B := (fun v => ¬ v = 0)) ac_m233 (fun v => not_congr ac_z32) ac_kp1 ac_ks70 rfl ⟨_, rfl⟩ rfl rfl (by decide) (fun hv hg => ag_ne1 (o := 10) (a := 77) (b := 0) rfl hv hg) (fun hv hg => ag_ne0 (o := 10) (a := 77) (b := 0) rfl (Classical.not_not.mp hv) hg)
noncomputable def ac_kf56 : Int → Int → Int := fun tk W => if (fun v => ¬ v = 0) (ac_F ac_l232 0 tk W) then (fun _ _ => (1 : Int)) tk W else ac_kf63 tk W
theorem ac_ks56 : ac_KP 56 ac_kf56 := ac_kps (A := (fun v => ¬ v = 0)) (B := (fun v => ¬ v = 0)) ac_m232 (fun v => not_congr ac_z32) ac_kp1 ac_ks63 rfl ⟨_, rfl⟩ rfl rfl (by decide) (fun hv hg => ag_ne1 (o := 17) (a := 77) (b := 0) rfl hv hg) (fun hv hg => ag_ne0 (o := 17) (a := 77) (b := 0) rfl (Classical.not_not.mp hv) hg)
noncomputable def ac_kf49 : Int → Int → Int := fun tk W => if (fun v => ¬ v = 0) (ac_F ac_l231 0 tk W) then (fun _ _ => (1 : Int)) tk W else ac_kf56 tk W
theorem ac_ks49 : ac_KP 49 ac_kf49 := ac_kps (A := (fun v => ¬ v = 0)) (B := (fun v => ¬ v = 0)) ac_m231 (fun v => not_congr ac_z32) ac_kp1 ac_ks56 rfl ⟨_, rfl⟩ rfl rfl (by decide) (fun hv hg => ag_ne1 (o := 24) (a := 77) (b := 0) rfl hv hg) (fun hv hg => ag_ne0 (o := 24) (a := 77) (b := 0) rfl (Classical.not_not.mp hv) hg)
noncomputable def ac_kf42 : Int → Int → Int := fun tk W => if (fun v => ¬ v = 0) (ac_F ac_l230 0 tk W) then (fun _ _ => (1 : Int)) tk W else ac_kf49 tk W
theorem ac_ks42 : ac_KP 42 ac_kf42 := ac_kps (A := (fun v => ¬ v = 0)) (B := (fun v => ¬ v = 0)) ac_m230 (fun v => not_congr ac_z32) ac_kp1 ac_ks49 rfl ⟨_, rfl⟩ rfl rfl (by decide) (fun hv hg => ag_ne1 (o := 31) (a := 77) (b := 0) rfl hv hg) (fun hv hg => ag_ne0 (o := 31) (a := 77) (b := 0) rfl (Classical.not_not.mp hv) hg)
noncomputable def ac_kf35 : Int → Int → Int := fun tk W => if (fun v => ¬ v = 0) (ac_F ac_l228 0 tk W) then (fun _ _ => (1 : Int)) tk W else ac_kf42 tk W
theorem ac_ks35 : ac_KP 35 ac_kf35 := ac_kps (A := (fun v => ¬ v = 0)) (B := (fun v => ¬ v = 0)) ac_m228 (fun v => not_congr ac_z32) ac_kp1 ac_ks42 rfl ⟨_, rfl⟩ rfl rfl (by decide) (fun hv hg => ag_ne1 (o := 38) (a := 77) (b := 0) rfl hv hg) (fun hv hg => ag_ne0 (o := 38) (a := 77) (b := 0) rfl (Classical.not_not.mp hv) hg)
noncomputable def ac_kf28 : Int → Int → Int := fun tk W => if (fun v => ¬ v = 0) (ac_F ac_l227 0 tk W) then (fun _ _ => (1 : Int)) tk W else ac_kf35 tk W
theorem ac_ks28 : ac_KP 28 ac_kf28 := ac_kps (A := (fun v => ¬ v = 0)) (B := (fun v => ¬ v = 0)) ac_m227 (fun v => not_congr ac_z32) ac_kp1 ac_ks35 rfl ⟨_, rfl⟩ rfl rfl (by decide) (fun hv hg => ag_ne1 (o := 45) (a := 77) (b := 0) rfl hv hg) (fun hv hg => ag_ne0 (o := 45) (a := 77) (b := 0) rfl (Classical.not_not.mp hv) hg)
noncomputable def ac_kf21 : Int → Int → Int := fun tk W => if (fun v => ¬ v = 0) (ac_F ac_l226 0 tk W) then (fun _ _ => (1 : Int)) tk W else ac_kf28 tk W
theorem ac_ks21 : ac_KP 21 ac_kf21 := ac_kps (A := (fun v => ¬ v = 0)) (B := (fun v => ¬ v = 0)) ac_m226 (fun v => not_congr ac_z32) ac_kp1 ac_ks28 rfl ⟨_, rfl⟩ rfl rfl (by decide) (fun hv hg => ag_ne1 (o := 52) (a := 77) (b := 0) rfl hv hg) (fun hv hg => ag_ne0 (o := 52) (a := 77) (b := 0) rfl (Classical.not_not.mp hv) hg)
noncomputable def ac_kf14 : Int → Int → Int := fun tk W => if (fun v => ¬ v = 0) (ac_F ac_l225 0 tk W) then (fun _ _ => (1 : Int)) tk W else ac_kf21 tk W
theorem ac_ks14 : ac_KP 14 ac_kf14 := ac_kps (A := (fun v => ¬ v = 0)) (B := (fun v => ¬ v = 0)) ac_m225 (fun v => not_congr ac_z32) ac_kp1 ac_ks21 rfl ⟨_, rfl⟩ rfl rfl (by decide) (fun hv hg => ag_ne1 (o := 59) (a := 77) (b := 0) rfl hv hg) (fun hv hg => ag_ne0 (o := 59) (a := 77) (b := 0) rfl (Classical.not_not.mp hv) hg)
noncomputable def ac_kf7 : Int → Int → Int := fun tk W => if (fun v => ¬ v = 0) (ac_F ac_l224 0 tk W) then (fun _ _ => (1 : Int)) tk W else ac_kf14 tk W
theorem ac_ks7 : ac_KP 7 ac_kf7 := ac_kps (A := (fun v => ¬ v = 0)) (B := (fun v => ¬ v = 0)) ac_m224 (fun v => not_congr ac_z32) ac_kp1 ac_ks14 rfl ⟨_, rfl⟩ rfl rfl (by decide) (fun hv hg => ag_ne1 (o := 66) (a := 77) (b := 0) rfl hv hg) (fun hv hg => ag_ne0 (o := 66) (a := 77) (b := 0) rfl (Classical.not_not.mp hv) hg)
noncomputable def ac_kf0 : Int → Int → Int := fun tk W => if (fun v => ¬ v = 0) (ac_F ac_l223 0 tk W) then (fun _ _ => (1 : Int)) tk W else ac_kf7 tk W
theorem ac_ks0 : ac_KP 0 ac_kf0 := ac_kps (A := (fun v => ¬ v = 0)) (B := (fun v => ¬ v = 0)) ac_m223 (fun v => not_congr ac_z32) ac_kp1 ac_ks7 rfl ⟨_, rfl⟩ rfl rfl (by decide) (fun hv hg => ag_ne1 (o := 73) (a := 77) (b := 0) rfl hv hg) (fun hv hg => ag_ne0 (o := 73) (a := 77) (b := 0) rfl (Classical.not_not.mp hv) hg)
theorem ac_m241 : ac_WM 11 241 ac_kf0 := fun L xs h d lw tk W hL q hd l0 => ac_ks0 L xs h d lw tk W hL q hd l0
/-- what the answers are, by the keyword that stands there; else -/
noncomputable def ac_wl : List (Nat × List (Int × Int × Int) × Int) := [(223, [(0, 0, 1), (1, 31, 0)], 0), (224, [(1, 1, 1), (0, 0, 0), (2, 31, 0)], 0), (225, [(2, 2, 1), (0, 1, 0), (3, 31, 0)], 0), (226, [(3, 3, 1), (0, 2, 0), (4, 31, 0)], 0), (227, [(4, 4, 1), (0, 3, 0), (5, 31, 0)], 0), (228, [(5, 5, 1), (0, 4, 0), (6, 31, 0)], 0), (229, [(6, 6, 1), (0, 5, 0), (7, 31, 0)], 0), (230, [(7, 7, 1), (0, 6, 0), (8, 31, 0)], 0), (231, [(8, 8, 1), (0, 7, 0), (9, 31, 0)], 0), (232, [(9, 9, 1), (0, 8, 0), (10, 31, 0)], 0), (233, [(10, 10, 1), (0, 9, 0), (11, 31, 0)], 0), (234, [(11, 11, 1), (0, 10, 0), (12, 31, 0)], 0), (235, [(12, 12, 1), (0, 11, 0), (13, 31, 0)], 0), (236, [(13, 13, 1), (0, 12, 0), (14, 31, 0)], 0), (240, [(30, 30, 1), (0, 29, 0), (31, 31, 0)], 0), (237, [(14, 14, 0), (15, 15, 1), (16, 16, 2), (17, 17, 3), (0, 13, (-1)), (18, 31, (-1))], (-1)), (238, [(6, 6, 3), (18, 18, 0), (19, 19, 1), (20, 20, 2), (21, 21, 4), (22, 22, 5), (23, 23, 6), (24, 24, 7), (25, 25, 8), (29, 29, 9), (31, 31, 10), (0, 5, (-1)), (7, 17, (-1)), (26, 28, (-1)), (30, 30, (-1))], (-1)), (239, [(26, 26, 0), (27, 27, 1), (28, 28, 2), (0, 25, (-1)), (29, 31, (-1))], (-1)), (241, [(0, 31, 1)], 0)]
noncomputable def ac_wgood (p : Nat × List (Int × Int × Int) × Int) (F : Int → Int → Int) : Prop := (∀ w : Fin 32, ∃ q ∈ p.2.1, q.1 ≤ (w.val : Int) ∧ (w.val : Int) ≤ q.2.1 ∧ q.2.2 = F 1 (aq_code (aq_kw.getD w.val []))) ∧ ∀ tk W, tk ≠ 1 ∨ (∀ v ∈ aq_kw, W ≠ aq_code v) → p.2.2 = F tk W
noncomputable def ac_codes : List Int := aq_kw.map aq_code
theorem ac_lk_c {l : List (Int × Int)} {d W : Int} (hl : (l.all fun q => ac_codes.any fun c => ae_ie c q.1) = true) (h : ∀ v ∈ aq_kw, W ≠ aq_code v) : ac_lk l d W = d := ac_lk_d (fun q hq e => by
  obtain ⟨c, hc, h1⟩ := List.any_eq_true.mp (List.all_eq_true.mp hl q hq)
  obtain ⟨v, hv, rfl⟩ := List.mem_map.mp hc
  exact h v hv (by rw [ae_ie_ok h1]; exact e))
theorem ac_good1 {y : Nat} {rg : List (Int × Int × Int)} {d : Int} {l : List (Int × Int)} (h1 : ∀ w : Fin 32, ∃ q ∈ rg, q.1 ≤ (w.val : Int) ∧ (w.val : Int) ≤ q.2.1 ∧ q.2.2 = ac_F l d 1 (aq_code (aq_kw.getD w.val []))) (hl : (l.all fun q => ac_codes.any fun c => ae_ie c q.1) = true) : ac_wgood (y, rg, d) (ac_F l d) := ⟨h1, fun tk W h => by
  show d = ac_F l d tk W
  unfold ac_F
  by_cases h2 : tk = 1
  · rw [if_pos h2, ac_lk_c hl (h.resolve_left (fun h => h h2))]
  · rw [if_neg h2]⟩
theorem ac_Fd {l : List (Int × Int)} {d tk W : Int} (hl : (l.all fun q => ac_codes.any fun c => ae_ie c q.1) = true) (h : tk ≠ 1 ∨ (∀ v ∈ aq_kw, W ≠ aq_code v)) : ac_F l d tk W = d := by
  unfold ac_F
  by_cases h2 : tk = 1
  · rw [if_pos h2, ac_lk_c hl (h.resolve_left (fun h => h h2))]
  · rw [if_neg h2]
theorem ac_k241 {tk W : Int} (h : tk ≠ 1 ∨ (∀ v ∈ aq_kw, W ≠ aq_code v)) : (0 : Int) = ac_kf0 tk W := by
  have e223 : ac_F ac_l223 0 tk W = 0 := ac_Fd (by decide +kernel) h
  have e224 : ac_F ac_l224 0 tk W = 0 := ac_Fd (by decide +kernel) h
  have e225 : ac_F ac_l225 0 tk W = 0 := ac_Fd (by decide +kernel) h
  have e226 : ac_F ac_l226 0 tk W = 0 := ac_Fd (by decide +kernel) h
  have e227 : ac_F ac_l227 0 tk W = 0 := ac_Fd (by decide +kernel) h
  have e228 : ac_F ac_l228 0 tk W = 0 := ac_Fd (by decide +kernel) h
  have e230 : ac_F ac_l230 0 tk W = 0 := ac_Fd (by decide +kernel) h
  have e231 : ac_F ac_l231 0 tk W = 0 := ac_Fd (by decide +kernel) h
  have e232 : ac_F ac_l232 0 tk W = 0 := ac_Fd (by decide +kernel) h
  have e233 : ac_F ac_l233 0 tk W = 0 := ac_Fd (by decide +kernel) h
  have e234 : ac_F ac_l234 0 tk W = 0 := ac_Fd (by decide +kernel) h
  have e235 : ac_F ac_l235 0 tk W = 0 := ac_Fd (by decide +kernel) h
  have e236 : ac_F ac_l236 0 tk W = 0 := ac_Fd (by decide +kernel) h
  have e237 : ac_F ac_l237 (-1) tk W = -1 := ac_Fd (by decide +kernel) h
  have e238 : ac_F ac_l238 (-1) tk W = -1 := ac_Fd (by decide +kernel) h
  have e239 : ac_F ac_l239 (-1) tk W = -1 := ac_Fd (by decide +kernel) h
  have e240 : ac_F ac_l240 0 tk W = 0 := ac_Fd (by decide +kernel) h
  unfold ac_kf0 ac_kf7 ac_kf14 ac_kf21 ac_kf28 ac_kf35 ac_kf42 ac_kf49 ac_kf56 ac_kf63 ac_kf70 ac_kf79 ac_kf86 ac_kf93 ac_kf100 ac_kf107 ac_kf114
  simp only [e223, e224, e225, e226, e227, e228, e230, e231, e232, e233, e234, e235, e236, e237, e238, e239, e240]
  decide
theorem ac_wl_ok : ∀ p ∈ ac_wl, ∃ F, ac_WM 11 p.1 F ∧ ac_wgood p F := by
  intro p hp
  have w10 : ∀ {y : Nat} {F : Int → Int → Int}, ac_WM 10 y F → ac_WM 11 y F := fun m L xs h d lw tk W hL q hd l0 => m L xs h d lw tk W hL q (by omega) l0
  unfold ac_wl at hp
  simp only [List.mem_cons, List.not_mem_nil, or_false] at hp
  rcases hp with rfl | rfl | rfl | rfl | rfl | rfl | rfl | rfl | rfl | rfl | rfl | rfl | rfl | rfl | rfl | rfl | rfl | rfl | rfl
  · exact ⟨_, w10 ac_m223, ac_good1 (by decide +kernel) (by decide +kernel)⟩
  · exact ⟨_, w10 ac_m224, ac_good1 (by decide +kernel) (by decide +kernel)⟩
  · exact ⟨_, w10 ac_m225, ac_good1 (by decide +kernel) (by decide +kernel)⟩
  · exact ⟨_, w10 ac_m226, ac_good1 (by decide +kernel) (by decide +kernel)⟩
  · exact ⟨_, w10 ac_m227, ac_good1 (by decide +kernel) (by decide +kernel)⟩
  · exact ⟨_, w10 ac_m228, ac_good1 (by decide +kernel) (by decide +kernel)⟩
  · exact ⟨_, w10 ac_m229, ac_good1 (by decide +kernel) (by decide +kernel)⟩
  · exact ⟨_, w10 ac_m230, ac_good1 (by decide +kernel) (by decide +kernel)⟩
  · exact ⟨_, w10 ac_m231, ac_good1 (by decide +kernel) (by decide +kernel)⟩
  · exact ⟨_, w10 ac_m232, ac_good1 (by decide +kernel) (by decide +kernel)⟩
  · exact ⟨_, w10 ac_m233, ac_good1 (by decide +kernel) (by decide +kernel)⟩
  · exact ⟨_, w10 ac_m234, ac_good1 (by decide +kernel) (by decide +kernel)⟩
  · exact ⟨_, w10 ac_m235, ac_good1 (by decide +kernel) (by decide +kernel)⟩
  · exact ⟨_, w10 ac_m236, ac_good1 (by decide +kernel) (by decide +kernel)⟩
  · exact ⟨_, w10 ac_m240, ac_good1 (by decide +kernel) (by decide +kernel)⟩
  · exact ⟨_, w10 ac_m237, ac_good1 (by decide +kernel) (by decide +kernel)⟩
  · exact ⟨_, w10 ac_m238, ac_good1 (by decide +kernel) (by decide +kernel)⟩
  · exact ⟨_, w10 ac_m239, ac_good1 (by decide +kernel) (by decide +kernel)⟩
  · exact ⟨_, ac_m241, fun w => ⟨_, List.mem_cons_self, by show (0 : Int) ≤ _; omega, by show (w.val : Int) ≤ 31; omega, by revert w; decide +kernel⟩, fun tk W h => ac_k241 h⟩

/-! A rick, both -/
noncomputable def rick_t0 : ab_Tm := akb_s 62 149 275 [(0, 0, (-2147483648), 2147483647), (0, 0, (-2147483648), 2147483647)] hh_T (1, [])
noncomputable def rick_e0 : ab_Tm := ((((6, [(1, 0, 4), (2, 0, 4), (3, 0, 4), (4, 0, 4), (5, (-1), 100000)], [], []), [], [], [], hh_T, ([], some (0, 0, (0, [(5, 1)]))), ([], some (0, 0, (0, [(5, 1)]))))), [(5, 0, 0)], (0, []))
noncomputable def rick_mo : ae_Mo := [(1, 12, 12), (219, 0, 1)]
noncomputable def rick_wt (y pc : Nat) : Bool := (bif Nat.blt y 271 then (Nat.beq y 36 && (Nat.beq pc 0)) else (Nat.beq y 271 && (Nat.beq pc 0)))
noncomputable def rick_R1 : List bh_R1 := []
noncomputable def rick_R2 : List bh_R2 := [(36, 0, 271, 0, (bh_if (fun z => (bh_fr false z).any fun f => bo_rf f.2.2.2.1 0 14) (ab_pdh ro0_c) (bh_if (fun z => (bh_fr false z).any fun f => bo_rf f.2.2.2.1 0 19) (ab_pdh ro1_c) (bh_if (fun z => (bh_fr false z).any fun f => bo_rf f.2.2.2.1 0 24) (ab_pdh ro2_c) (ab_pdh ro3_c)))))]
noncomputable def rick_l0 : List ab_Tm := [rick_t0]
noncomputable def rick_es : List ab_Tm := [rick_e0]
noncomputable def rick_tms : List ab_Tm := rick_l0 ++ (rick_es)
noncomputable def rick_W : ab_W := ((rick_mo, [], []), rick_mo, rick_wt, bh_hf rick_R1 rick_R2 rick_wt, bh_hk rick_R1 rick_R2 rick_wt, rick_tms, (fun z => none), 5)
noncomputable def rick_kf (a : Bool) (y pc : Nat) : Bool := bif a then false else false
noncomputable def rick_hq : af_Hq := bh_hq rick_R2 rick_kf rick_wt
theorem rick_k0 : (rick_l0.all (af_chk rick_W rick_hq 4000 true true)) = true := by decide +kernel
theorem rick_hk {L : Nat} {xs : Nat → Int32} (hL : L ≤ 3072) {Q : Option Value → Option Value → List am_E → List am_E → Prop} {r0 : Nat → Int} : bh_ok rick_mo (bo_G L xs r0) L xs Q 5 r0 (bh_hk rick_R1 rick_R2 rick_wt) :=
  (bh_hk_ok bh_nil (bh_cons (P := fun r : bh_R2 => bh_ok _ _ _ _ _ _ _ r.2.2.2.2) (bh_if_ok (bh_pd_ok (H := (bo_G L xs)) (c := ro0_c) ae_rok_ok ae_fok_ok (ro0_c_ok hL) (fun r r' h e H => bo_G_ag e H) (by decide +kernel) (by decide)) (bh_if_ok (bh_pd_ok (H := (bo_G L xs)) (c := ro1_c) ae_rok_ok ae_fok_ok (ro1_c_ok hL) (fun r r' h e H => bo_G_ag e H) (by decide +kernel) (by decide)) (bh_if_ok (bh_pd_ok (H := (bo_G L xs)) (c := ro2_c) ae_rok_ok ae_fok_ok (ro2_c_ok hL) (fun r r' h e H => bo_G_ag e H) (by decide +kernel) (by decide)) (bh_pd_ok (H := (bo_G L xs)) (c := ro3_c) ae_rok_ok ae_fok_ok (ro3_c_ok hL) (fun r r' h e H => bo_G_ag e H) (by decide +kernel) (by decide))))) bh_nil))
theorem rick_all {L : Nat} {xs : Nat → Int32} (hL : L ≤ 3072) {Q : Option Value → Option Value → List am_E → List am_E → Prop} {r0 : Nat → Int} (he : ∀ t ∈ rick_es, ab_ok rick_W (bo_G L xs r0) L xs Q r0 t) : ∀ t ∈ rick_tms, ab_ok rick_W (bo_G L xs r0) L xs Q r0 t :=
  ab_allr ae_rok_ok ae_fok_ok hL (fun _ q => absurd q List.not_mem_nil) (by decide +kernel) (fun h h' a b => bo_G_fr (by decide +kernel) a b) (bh_HOK (W := rick_W) (rick_hk hL)) (bh_app (fun t ht => Or.inl ⟨4000, true, true, bh_cks (bh_hq_ok (W := rick_W) (kf := rick_kf) rfl (by decide +kernel)) rick_k0 t ht⟩) (fun t ht => Or.inr (he t ht)))
theorem rick_PL {L : Nat} {xs : Nat → Int32} (hL : L ≤ 3072) : lw_PL (lw_I lw_TT L xs) L xs [(0, 0, (-2147483648), 2147483647), (0, 0, (-2147483648), 2147483647)] 149 275 0 true :=
  lw_actb hL (G := bo_G L xs) (W := rick_W) (T := hh_T) (TT := lw_TT) (D := 62) (rk := (1, [])) (by decide +kernel) (by decide) rfl (List.mem_append_left _ List.mem_cons_self) (by decide +kernel) (fun h k p R => bo_start k (by decide +kernel) R) (fun r0 => rick_all hL (Q := ak_Q hh_T 0 true L xs) (r0 := r0) (bh_cons (P := fun t => ab_ok rick_W (bo_G L xs r0) L xs (ak_Q hh_T 0 true L xs) r0 t) (akb_end rfl (by decide) (by intro _; rfl)) bh_nil)) (by decide +kernel) (by decide +kernel) (by decide +kernel) (fun f h => lw_sub (by decide +kernel) h) (by decide +kernel) (by decide +kernel)

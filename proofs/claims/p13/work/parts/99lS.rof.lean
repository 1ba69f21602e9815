/-! The rats of a rick -/
noncomputable def rof_t0 : ab_Tm := ((((7, [(1, 0, 4), (2, 0, 4), (3, 0, 4), (4, 0, 4), (5, 1, 4), (6, 0, 3)], [(1, [(5, (-1)), (6, 1)])], []), [(8, (5, []), (0, 0, (0, [(5, 1)])), false)], [], [], hh_T, ([(25, 24, 0, [(0, (2, 107, (0, []))), (1, (2, 8, (0, []))), (2, (0, 0, (0, [(6, 1)])))], [])], none), ([(25, 271, 0, [(0, (2, 219, (0, []))), (1, (0, 0, (0, [(6, 1)])))], [])], none))), [(0, 8, 5), (1, 0, 2)], (1, []))
noncomputable def rof_e0 : ab_Tm := ((((6, [(1, 0, 4), (2, 0, 4), (3, 0, 4), (4, 0, 4), (5, 0, 100000)], [], []), [], [], [], hh_T, ([], some (0, 0, (0, [(5, 1)]))), ([], some (0, 0, (0, [(5, 1)]))))), [(5, 0, 0)], (0, []))
noncomputable def rof_mo : ae_Mo := []
noncomputable def rof_wt (y pc : Nat) : Bool := (bif Nat.blt y 271 then (Nat.beq y 36 && (Nat.beq pc 0)) else (Nat.beq y 271 && (Nat.beq pc 0)))
noncomputable def rof_R1 : List bh_R1 := [(false, 24, 13, (fun z => !(bh_kc (bh_sk false 0) z)), (bh_v (bh_sk false 0)))]
noncomputable def rof_R2 : List bh_R2 := [(36, 0, 271, 0, (bh_if (fun z => (bh_fr false z).any fun f => bo_rf f.2.2.2.1 0 14) (ab_pdh ro0_c) (bh_if (fun z => (bh_fr false z).any fun f => bo_rf f.2.2.2.1 0 19) (ab_pdh ro1_c) (bh_if (fun z => (bh_fr false z).any fun f => bo_rf f.2.2.2.1 0 24) (ab_pdh ro2_c) (ab_pdh ro3_c)))))]
noncomputable def rof_l0 : List ab_Tm := [rof_t0]
noncomputable def rof_es : List ab_Tm := [rof_e0]
noncomputable def rof_tms : List ab_Tm := rof_l0 ++ (rof_es)
noncomputable def rof_W : ab_W := ((rof_mo, [], []), rof_mo, rof_wt, bh_hf rof_R1 rof_R2 rof_wt, bh_hk rof_R1 rof_R2 rof_wt, rof_tms, (fun z => none), 5)
noncomputable def rof_kf (a : Bool) (y pc : Nat) : Bool := bif a then false else (Nat.beq y 24 && (Nat.beq pc 13))
noncomputable def rof_hq : af_Hq := bh_hq rof_R2 rof_kf rof_wt
theorem rof_k0 : (rof_l0.all (af_chk rof_W rof_hq 4000 true false)) = true := by decide +kernel
theorem rof_hk {L : Nat} {xs : Nat → Int32} (hL : L ≤ 3072) {Q : Option Value → Option Value → List am_E → List am_E → Prop} {r0 : Nat → Int} : bh_ok rof_mo (bo_G L xs r0) L xs Q 5 r0 (bh_hk rof_R1 rof_R2 rof_wt) :=
  (bh_hk_ok (bh_cons (P := fun r : bh_R1 => bh_ok _ _ _ _ _ _ _ r.2.2.2.2) bh_v_ok bh_nil) (bh_cons (P := fun r : bh_R2 => bh_ok _ _ _ _ _ _ _ r.2.2.2.2) (bh_if_ok (bh_pd_ok (H := (bo_G L xs)) (c := ro0_c) ae_rok_ok ae_fok_ok (ro0_c_ok hL) (fun r r' h e H => bo_G_ag e H) (by decide +kernel) (by decide)) (bh_if_ok (bh_pd_ok (H := (bo_G L xs)) (c := ro1_c) ae_rok_ok ae_fok_ok (ro1_c_ok hL) (fun r r' h e H => bo_G_ag e H) (by decide +kernel) (by decide)) (bh_if_ok (bh_pd_ok (H := (bo_G L xs)) (c := ro2_c) ae_rok_ok ae_fok_ok (ro2_c_ok hL) (fun r r' h e H => bo_G_ag e H) (by decide +kernel) (by decide)) (bh_pd_ok (H := (bo_G L xs)) (c := ro3_c) ae_rok_ok ae_fok_ok (ro3_c_ok hL) (fun r r' h e H => bo_G_ag e H) (by decide +kernel) (by decide))))) bh_nil))
theorem rof_all {L : Nat} {xs : Nat → Int32} (hL : L ≤ 3072) {Q : Option Value → Option Value → List am_E → List am_E → Prop} {r0 : Nat → Int} (he : ∀ t ∈ rof_es, ab_ok rof_W (bo_G L xs r0) L xs Q r0 t) : ∀ t ∈ rof_tms, ab_ok rof_W (bo_G L xs r0) L xs Q r0 t :=
  ab_allr ae_rok_ok ae_fok_ok hL (fun _ q => absurd q List.not_mem_nil) (by decide +kernel) (fun h h' a b => bo_G_fr (by decide +kernel) a b) (bh_HOK (W := rof_W) (rof_hk hL)) (bh_app (fun t ht => Or.inl ⟨4000, true, false, bh_cks (bh_hq_ok (W := rof_W) (kf := rof_kf) rfl (by decide +kernel)) rof_k0 t ht⟩) (fun t ht => Or.inr (he t ht)))
noncomputable def rof_c : ab_Pd := ((rof_t0.1, [] ++ rof_t0.2.1, (0, [])), rof_es, rof_mo, 5, 5)
theorem rof_c_ok {L : Nat} {xs : Nat → Int32} (hL : L ≤ 3072) : ab_PdOK (bo_G L xs) L xs rof_c := fun r0 ρ g1 g2 h1 h2 S e =>
  rof_all hL (Q := ab_pe (bo_G L xs r0) L xs 5 r0 rof_es) (r0 := r0) (bh_cons (P := fun t => ab_ok rof_W (bo_G L xs r0) L xs (ab_pe (bo_G L xs r0) L xs 5 r0 rof_es) r0 t) (ab_pe_ok (W := rof_W) (es := rof_es) (List.mem_cons_self) rfl rfl) bh_nil) rof_t0 (List.mem_append_left _ List.mem_cons_self) ρ g1 g2 h1 h2 S (by decide) e

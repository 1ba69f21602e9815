/-! cap -/
noncomputable def ka_cap_e : ab_Tm := ((((2, [(1, (-2147483648), 2147483647)], [], []), [], [], [], lw_Y0, ([], some (0, 0, (0, [(1, 1)]))), ([], some (0, 0, (0, [(1, 1)]))))), [(5, 0, 0)], (0, []))
noncomputable def ka_cap_mo : ae_Mo := [(1, 12, 12), (8, 17, 17), (14, 2, 2), (19, 2, 2), (24, 2, 2), (29, 2, 2), (219, 0, 1), (224, 12, 12), (224, 25, 28)]
noncomputable def ka_cap_wt (y pc : Nat) : Bool := false
noncomputable def ka_cap_W : ab_W := ((ka_cap_mo, [], []), ka_cap_mo, ka_cap_wt, (fun _ _ _ => false), (fun _ => none), [ak_s 12 188 336 [(0, 0, (-2147483648), 2147483647)] lw_Y0 (1000000000, []), ka_cap_e], (fun _ => some (true, true)), 1)
theorem ka_cap_k : ab_chk ka_cap_W 4000 true true (ak_s 12 188 336 [(0, 0, (-2147483648), 2147483647)] lw_Y0 (1000000000, [])) = true := af_ck af_h1_ok (by decide +kernel)
theorem ka_cap_PL {L : Nat} {xs : Nat → Int32} (hL : L ≤ 3072) : lw_PL (lw_I lw_TT L xs) L xs [(0, 0, (-2147483648), 2147483647)] 188 336 0 true :=
  lw_act hL (T := lw_Y0) (W := ka_cap_W) (D := 12) (rk := (1000000000, [])) (by decide +kernel) (by decide) rfl List.mem_cons_self (fun r0 => ab_all ae_rok_ok ae_fok_ok hL (fun _ q => absurd q List.not_mem_nil) (by decide +kernel) (fun _ _ _ _ => trivial) (ad_HOK0 rfl) (ad_cons (Or.inl ⟨4000, true, true, ka_cap_k⟩) (ad_cons (Or.inr (ak_end rfl (by decide) (by intro _; rfl))) ad_nil))) (by decide +kernel) (by decide +kernel) (by decide +kernel) (fun _ h => lw_RI_l (A := lw_Y0) h) (by decide +kernel) (by decide +kernel)

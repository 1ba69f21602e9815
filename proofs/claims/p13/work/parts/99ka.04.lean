/-! send -/
noncomputable def ka_send_e : ab_Tm := ((((2, [(1, 0, 1)], [], []), [], [], [], lw_Y0, ([], some (0, 0, (0, [(1, 1)]))), ([], some (0, 0, (0, [(1, 1)]))))), [(5, 0, 0)], (0, []))
noncomputable def ka_send_mo : ae_Mo := [(1, 12, 12), (18, 1, 1), (23, 1, 1), (28, 1, 1), (33, 1, 1), (219, 0, 1), (224, 97, 100)]
noncomputable def ka_send_wt (y pc : Nat) : Bool := false
noncomputable def ka_send_W : ab_W := ((ka_send_mo, [], []), ka_send_mo, ka_send_wt, (fun _ _ _ => false), (fun _ => none), [ak_s 12 165 301 [(0, 0, (-2147483648), 2147483647), (0, 0, (-2147483648), 2147483647)] lw_Y0 (1000000000, []), ka_send_e], (fun _ => some (true, true)), 1)
theorem ka_send_k : ab_chk ka_send_W 4000 true true (ak_s 12 165 301 [(0, 0, (-2147483648), 2147483647), (0, 0, (-2147483648), 2147483647)] lw_Y0 (1000000000, [])) = true := af_ck af_h1_ok (by decide +kernel)
theorem ka_send_PL {L : Nat} {xs : Nat → Int32} (hL : L ≤ 3072) : lw_PL (lw_I lw_TT L xs) L xs [(0, 0, (-2147483648), 2147483647), (0, 0, (-2147483648), 2147483647)] 165 301 0 true :=
  lw_act hL (T := lw_Y0) (W := ka_send_W) (D := 12) (rk := (1000000000, [])) (by decide +kernel) (by decide) rfl List.mem_cons_self (fun r0 => ab_all ae_rok_ok ae_fok_ok hL (fun _ q => absurd q List.not_mem_nil) (by decide +kernel) (fun _ _ _ _ => trivial) (ad_HOK0 rfl) (ad_cons (Or.inl ⟨4000, true, true, ka_send_k⟩) (ad_cons (Or.inr (ak_end rfl (by decide) (by intro _; rfl))) ad_nil))) (by decide +kernel) (by decide +kernel) (by decide +kernel) (fun _ h => lw_RI_l (A := lw_Y0) h) (by decide +kernel) (by decide +kernel)

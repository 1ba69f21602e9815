/-! days(n), both: up to the first token, and from the taken text on -/
noncomputable def da_0 : ab_Tm := ((((3, [(1, 0, 900), (2, (-2147483648), 2147483647)], [], []), [(219, (8, []), (0, 0, (0, [(1, 1)])), false), (3, (8, []), (0, 0, (0, [(1, 1)])), false)], [], [], lw_T0, ([(62, 146, 0, [(0, (2, 1, (0, []))), (1, (0, 0, (0, [(2, 1)])))], [])], none), ([(62, 265, 0, [(0, (2, 219, (0, []))), (1, (0, 0, (0, [(2, 1)])))], [])], none))), [(0, 219, 8), (1, 0, 1)], (1, []))
noncomputable def da_1 : ab_Tm := ((((3, [(1, 0, 300), (2, 0, 900)], [], []), [(219, (12, []), (0, 0, (0, [])), false), (219, (16, []), (0, 0, (0, [])), false), (219, (8, []), (0, 0, (0, [])), false), (219, (9, []), (0, 0, (0, [(1, 1)])), false), (3, (10, []), (0, 0, ((-1), [])), false), (3, (4, []), (0, 0, (0, [])), false), (3, (5, []), (0, 0, (0, [])), false), (3, (6, []), (0, 0, (0, [(1, 1)])), false), (3, (7, []), (0, 0, (0, [])), false), (3, (8, []), (0, 0, (0, [(2, 1)])), false), (3, (9, []), (0, 0, (0, [])), false), (67, (4, []), (0, 0, (0, [])), false), (68, (5, []), (0, 0, (0, [])), false)], [], [], lw_T0, ([(60, 49, 40, [(0, (2, 3, (0, []))), (1, (0, 0, (0, [(1, 1)]))), (2, (0, 0, (1, []))), (3, (0, 0, (0, [])))], []), (61, 9, 20, [(0, (2, 67, (0, []))), (1, (0, 0, (0, [(1, 1)])))], []), (62, 146, 36, [(0, (2, 1, (0, []))), (1, (0, 0, (0, [(1, 1)])))], [])], none), ([(61, 250, 44, [(0, (2, 219, (0, []))), (1, (0, 0, (0, [(1, 1)]))), (2, (0, 0, (300, [])))], [(2, 219, (0, []))]), (62, 265, 18, [(0, (2, 219, (0, []))), (1, (0, 0, (0, [(1, 1)])))], [])], none))), [(0, 219, 9), (0, 3, 8)], (0, []))
noncomputable def da_2 : ab_Tm := ((((2, [(1, 0, 900)], [], []), [(219, (8, []), (0, 0, (0, [(1, 1)])), false), (3, (8, []), (0, 0, (0, [(1, 1)])), false)], [], [], lw_T0, ([], some (0, 0, ((-1), []))), ([], some (0, 0, ((-1), []))))), [(0, 219, 8)], (0, []))
noncomputable def da_mo : ae_Mo := [(1, 12, 12), (3, 4, 10), (67, 4, 4), (68, 5, 6), (219, 0, 1), (219, 8, 9), (219, 12, 12), (219, 16, 16)]
noncomputable def da_mo2 : ae_Mo := da_mo ++ (ac_bmo ++ ((219, 14, 19) :: dr_mo2))
noncomputable def da_tms : List ab_Tm := [da_0, da_1, da_2]
noncomputable def da_W : ab_W := ((da_mo, [], []), da_mo2, (fun y pc => (Nat.beq y 49 && Nat.beq pc 40) || (Nat.beq y 250 && Nat.beq pc 44)), (fun _ _ _ => false), (fun _ => none), da_tms, (fun _ => some (true, true)), 1)
noncomputable def dc_e : ab_Tm := ((((2, [(1, 0, 30)], [], []), [(3, (8, []), (0, 0, (0, [])), false)], [], [], lw_T0, ([], some (0, 0, (0, [(1, 1)]))), ([], some (0, 0, (0, [(1, 1)]))))), [(5, 0, 0)], (0, []))
noncomputable def dc_g : ab_Tm := (dr_341.1, dr_341.2.1, (100, []))
noncomputable def dc_mo : ae_Mo := [(34, 0, 6), (35, 0, 29), (36, 0, 29), (37, 0, 29), (38, 0, 29), (39, 0, 29), (1, 12, 12), (219, 0, 1), (219, 10, 11), (224, 109, 380), (3, 8, 8)]
noncomputable def dc_ms : List (ae_Mc × List (Nat × Nat)) := [(aem_20, [])]
noncomputable def dc_wt (_ _ : Nat) : Bool := false
noncomputable def dc_tms : List ab_Tm := [dc_g, dc_e]
noncomputable def dc_W : ab_W := ((dc_mo, [], []), dc_mo, dc_wt, ad_hf dc_ms dc_wt, ad_hm dc_ms, dc_tms, (fun z => match z.t1.1 with
  | [] => some (false, true)
  | _ :: _ => some (true, false)), 1)
theorem da_0_ok : ab_chk da_W 4000 true true da_0 = true := af_ck af_h1_ok (by decide +kernel)
theorem dc_g_ok : ab_chk dc_W 4000 true false dc_g = true := af_ck (af_hd_ok rfl) (by decide +kernel)

/-! Blocks one in another: contracts for any word, what is known besides -/
noncomputable def nt_c12 : ae_Ct := (12, [(2, 67, 0, 0), (0, 0, (-2147483648), 2147483647)], some (0, 0, 1), [], [], [[]], false, 0)
theorem nt_t12 : ae_CT nt_c12 := ae_con_ok ae_rok_ok ae_fok_ok (fuel := 100000) (cts := []) (mcs := []) (cus := []) (sps := []) (af_kc (by decide +kernel)) (fun _ q => absurd q List.not_mem_nil) (fun _ q => absurd q List.not_mem_nil)
noncomputable def nt_c13 : ae_Ct := (13, [(2, 67, 0, 0), (0, 0, 0, 29), (0, 0, (-2147483648), 2147483647)], some (0, 0, 1), [(3, 5, 5), (3, 9, 16), (69, 0, 29), (70, 0, 29), (71, 0, 29), (72, 0, 29)], [], [[]], false, 5)
theorem nt_t13 : ae_CT nt_c13 := ae_con_ok ae_rok_ok ae_fok_ok (fuel := 100000) (cts := [aec_37, aec_39, aec_52, aec_53, aec_55, aec_56, aec_57]) (mcs := []) (cus := []) (sps := []) (af_kc (by decide +kernel)) (ae_ctc aet_37 (ae_ctc aet_39 (ae_ctc aet_52 (ae_ctc aet_53 (ae_ctc aet_55 (ae_ctc aet_56 (ae_ctc aet_57 (fun _ q => absurd q List.not_mem_nil)))))))) (fun _ q => absurd q List.not_mem_nil)
noncomputable def nt_R : ae_Mo := [(35, 0, 29), (36, 0, 29), (37, 0, 29), (38, 0, 29), (39, 0, 29)]
noncomputable def nt_G (_ : Nat) (_ : Nat → Int32) (_ : Nat → Int) (_ : List am_E) : Prop := True
noncomputable def nt_e (g : Nat) (z : ab_St) : Bool := z.m.any fun m => Nat.beq m.1 73 && ae_rg z.k (ae_sub m.2.1 (ae_sym g)) 0 0
noncomputable def nt_out (_ : ae_Mo) : Bool := true
theorem nt_G_fr {L : Nat} {xs : Nat → Int32} {r0 : Nat → Int} {mo : ae_Mo} (_ : nt_out mo = true) {h h' : List am_E} (_ : nt_G L xs r0 h) (_ : ae_fr mo L xs h h') : nt_G L xs r0 h' := trivial
